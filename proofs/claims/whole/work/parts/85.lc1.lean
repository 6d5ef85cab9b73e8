set_option maxRecDepth 100000 in
set_option maxHeartbeats 4000000 in
theorem law_loop {p : Program} {e : Env} {s : State} {m : MethodId} {below : List Frame} {meth : Method} {c : Code} (l : Launch) {b Lx : Nat} {xs : Nat → Int32} (hr : meth.sig.returnType = ret) (hlocks : meth.locks = false) (hC : CallFix p m c cL_law 4 s #[Value.ref b] GW "CoinRowsLaw") (hX : va_X b Lx xs s s.heap) (hbl : b < s.heap.size) (hLx : Lx ≤ 2560) {G : Gx} : ∀ (fu j n : Nat) (ad : Nat → Nat) (I : Ic) (L : Lc) (R : Rc) (S : ST) (H : Heap) (locs : List Loc), Lx < fu + 5 * j → 5 * j ≤ Lx → Wd G n ad I L R (fun q => s.heap.size ≤ q) s.heap H locs s → InvA n I L R S → InvB n I R S → ∀ ls : Array Slot, lv_has ls 4 [(3, .int (nI (5 * j))), (2, .ref (ad 71)), (1, .ref (ad 0)), (0, .ref b)] → W p l e room_1 s m #[Value.ref b] below meth c H locs (83 + 3 * j) (1888 + 67 * j) (lw_Z below #[Value.ref b] s) (F0 m 18 ls []) := by
  intro fu
  induction fu with
  | zero =>
    intro j n ad I L R S H locs h1 h2; omega
  | succ fu ih =>
    intro j n ad I L R S H locs hfu hj hW hA hB ls hl
    have hx := hC.1
    have hb := hC.2.1
    have hbA : ¬ (fun q : Nat => s.heap.size ≤ q) b := Nat.not_le.mpr hbl
    have hn : 83 ≤ n := hA.1
    refine lv_iload_n hx hb dL_law_18 rfl (lv_at hl 0 rfl) ?_
    refine lv_aload_n hx hb dL_law_19 rfl (lv_at hl 3 rfl) ?_
    refine va_slen hC.1 hC.2.1 hX hbl hbA hW.2.2.2.1 dL_law_20 ?_
    refine lv_iconst (v := 5) hx hb dL_law_21 (by decide) ?_
    refine lv_isub hx hb dL_law_22 ?_
    refine lv_icmp_gt (tgt := 861) hx hb dL_law_23 (by decide) (fun c_23 => ?_) (fun c_23 => ?_)
    ·
      refine lv_iconst (v := 1) hx hb dL_law_861 (by decide) ?_
      refine va_forget (fun q hq => hW.2.2.2.1.2.2 q hq) ?_
      refine q_more (c2 := 600000) (s2 := 7302250) (by omega) (by omega) ?_
      refine W.base ?_
      exact lw_ret (Drawn.sameBut.refl s.drawn lw_cs) hx hb hr hlocks dL_law_862
    ·
      have hle : 5 * j + 5 ≤ Lx := Nat.le_of_not_lt (fun q9 => c_23 (Int32.lt_iff_toInt_lt.mpr (by
        have h1 : (nI Lx - nI 5).toInt = (Lx : Int) - 5 := pk_sub_toInt (by omega) (by decide)
        have h2 : (nI (5 * j)).toInt = ((5 * j : Nat) : Int) := nI_toInt (by omega)
        show (nI Lx - nI 5).toInt < (nI (5 * j)).toInt
        omega)))
      have kk : ∀ (n1 : Nat) (ad1 : Nat → Nat) (I1 : Ic) (L1 : Lc) (R1 : Rc) (S1 : ST) (H1 : Heap) (locs1 : List Loc) (ls1 : Array Slot), Wd G n1 ad1 I1 L1 R1 (fun q => s.heap.size ≤ q) s.heap H1 locs1 s → InvA n1 I1 L1 R1 S1 → InvB n1 I1 R1 S1 → lv_has ls1 4 [(3, .int (nI (5 * j))), (2, .ref (ad1 71)), (1, .ref (ad1 0)), (0, .ref b)] → W p l e room_1 s m #[Value.ref b] below meth c H1 locs1 (83 + 3 * j + 3) (1888 + 67 * j + 67) (lw_Z below #[Value.ref b] s) (F0 m 855 ls1 []) := by
        intro n1 ad1 I1 L1 R1 S1 H1 locs1 ls1 hW1 hA1 hB1 hl1
        refine q_more (c2 := 83 + 3 * (j + 1)) (s2 := 1888 + 67 * (j + 1)) (by omega) (by omega) ?_
        refine q_iinc (z2 := 5 * j + 5) (lv' := [(3, .int (nI (5 * j + 5))), (2, .ref (ad1 71)), (1, .ref (ad1 0)), (0, .ref b)]) hx hb dL_law_855 hl1 (k := 0) rfl (inc_up _ 5 (by decide)) (by decide) rfl (fun ls2 hl2 => ?_)
        refine lv_goto (tgt := 18) hx hb dL_law_858 (by decide) ?_
        exact ih (j + 1) n1 ad1 I1 L1 R1 S1 H1 locs1 (by omega) (by omega) hW1 hA1 hB1 ls2 (lv_sub hl2 [0, 1, 2, 3] rfl)
      refine lv_aload_n hx hb dL_law_26 rfl (lv_at hl 3 rfl) ?_
      refine lv_iload_n hx hb dL_law_27 rfl (lv_at hl 0 rfl) ?_
      refine va_sld hC.1 hC.2.1 hX hbl hbA hW.2.2.2.1 (in_k (i := 5 * j) (by omega) hLx) dL_law_28 ?_
      refine q_bp 31 hx hb dL_law_29 (by decide) ?_
      refine lv_iand hx hb dL_law_31 ?_
      generalize (xs (nI (5 * j)).toNatClampNeg &&& nI 31) = v
      by_cases hsw : v.toInt < 0 ∨ 26 < v.toInt
      ·
        refine lv_tableOut (tgt := 855) hx hb dL_law_32 hsw (by decide) ?_
        refine q_more (c2 := 83 + 3 * j + 3) (s2 := 1888 + 67 * j + 67) (by omega) (by omega) ?_
        exact kk n ad I L R S H locs ls hW hA hB hl
      ·
        obtain ⟨u_, hu_, rfl⟩ := rng_ex (N := 27) (x := v) (by decide) (by omega) (by omega)
        have hu9 : u_ = 0 ∨ u_ = 1 ∨ u_ = 2 ∨ u_ = 3 ∨ u_ = 4 ∨ u_ = 5 ∨ u_ = 6 ∨ u_ = 7 ∨ u_ = 8 ∨ u_ = 9 ∨ u_ = 10 ∨ u_ = 11 ∨ u_ = 12 ∨ u_ = 13 ∨ u_ = 14 ∨ u_ = 15 ∨ u_ = 16 ∨ u_ = 17 ∨ u_ = 18 ∨ u_ = 19 ∨ u_ = 20 ∨ u_ = 21 ∨ u_ = 22 ∨ u_ = 23 ∨ u_ = 24 ∨ u_ = 25 ∨ u_ = 26 := by omega
        rcases hu9 with rfl | rfl | rfl | rfl | rfl | rfl | rfl | rfl | rfl | rfl | rfl | rfl | rfl | rfl | rfl | rfl | rfl | rfl | rfl | rfl | rfl | rfl | rfl | rfl | rfl | rfl | rfl
        ·
          refine lv_tableIn (off := 124) (tgt := 156) hx hb dL_law_32 (by decide) (by decide) rfl (by decide) ?_
          exact law_c0 l hC hX hbl hLx (by omega) (by omega) hle hW hA hB ls hl kk
        ·
          refine lv_tableIn (off := 177) (tgt := 209) hx hb dL_law_32 (by decide) (by decide) rfl (by decide) ?_
          exact law_c1 l hC hX hbl hLx (by omega) (by omega) hle hW hA hB ls hl kk
        ·
          refine lv_tableIn (off := 220) (tgt := 252) hx hb dL_law_32 (by decide) (by decide) rfl (by decide) ?_
          exact law_c2 l hC hX hbl hLx (by omega) (by omega) hle hW hA hB ls hl kk
        ·
          refine lv_tableIn (off := 243) (tgt := 275) hx hb dL_law_32 (by decide) (by decide) rfl (by decide) ?_
          exact law_c3 l hC hX hbl hLx (by omega) (by omega) hle hW hA hB ls hl kk
        ·
          refine lv_tableIn (off := 256) (tgt := 288) hx hb dL_law_32 (by decide) (by decide) rfl (by decide) ?_
          exact law_c4 l hC hX hbl hLx (by omega) (by omega) hle hW hA hB ls hl kk
        ·
          refine lv_tableIn (off := 279) (tgt := 311) hx hb dL_law_32 (by decide) (by decide) rfl (by decide) ?_
          exact law_c5 l hC hX hbl hLx (by omega) (by omega) hle hW hA hB ls hl kk
        ·
          refine lv_tableIn (off := 292) (tgt := 324) hx hb dL_law_32 (by decide) (by decide) rfl (by decide) ?_
          exact law_c6 l hC hX hbl hLx (by omega) (by omega) hle hW hA hB ls hl kk
        ·
          refine lv_tableIn (off := 345) (tgt := 377) hx hb dL_law_32 (by decide) (by decide) rfl (by decide) ?_
          exact law_c7 l hC hX hbl hLx (by omega) (by omega) hle hW hA hB ls hl kk
        ·
          refine lv_tableIn (off := 358) (tgt := 390) hx hb dL_law_32 (by decide) (by decide) rfl (by decide) ?_
          exact law_c8 l hC hX hbl hLx (by omega) (by omega) hle hW hA hB ls hl kk
        ·
          refine lv_tableIn (off := 371) (tgt := 403) hx hb dL_law_32 (by decide) (by decide) rfl (by decide) ?_
          exact law_c9 l hC hX hbl hLx (by omega) (by omega) hle hW hA hB ls hl kk
        ·
          refine lv_tableIn (off := 384) (tgt := 416) hx hb dL_law_32 (by decide) (by decide) rfl (by decide) ?_
          exact law_c10 l hC hX hbl hLx (by omega) (by omega) hle hW hA hB ls hl kk
        ·
          refine lv_tableIn (off := 398) (tgt := 430) hx hb dL_law_32 (by decide) (by decide) rfl (by decide) ?_
          exact law_c11 l hC hX hbl hLx (by omega) (by omega) hle hW hA hB ls hl kk
        ·
          refine lv_tableIn (off := 432) (tgt := 464) hx hb dL_law_32 (by decide) (by decide) rfl (by decide) ?_
          exact law_c12 l hC hX hbl hLx (by omega) (by omega) hle hW hA hB ls hl kk
        ·
          refine lv_tableIn (off := 466) (tgt := 498) hx hb dL_law_32 (by decide) (by decide) rfl (by decide) ?_
          exact law_c13 l hC hX hbl hLx (by omega) (by omega) hle hW hA hB ls hl kk
        ·
          refine lv_tableIn (off := 479) (tgt := 511) hx hb dL_law_32 (by decide) (by decide) rfl (by decide) ?_
          exact law_c14 l hC hX hbl hLx (by omega) (by omega) hle hW hA hB ls hl kk
        ·
          refine lv_tableIn (off := 512) (tgt := 544) hx hb dL_law_32 (by decide) (by decide) rfl (by decide) ?_
          exact law_c15 l hC hX hbl hLx (by omega) (by omega) hle hW hA hB ls hl kk
        ·
          refine lv_tableIn (off := 536) (tgt := 568) hx hb dL_law_32 (by decide) (by decide) rfl (by decide) ?_
          exact law_c16 l hC hX hbl hLx (by omega) (by omega) hle hW hA hB ls hl kk
        ·
          refine lv_tableIn (off := 559) (tgt := 591) hx hb dL_law_32 (by decide) (by decide) rfl (by decide) ?_
          exact law_c17 l hC hX hbl hLx (by omega) (by omega) hle hW hA hB ls hl kk
        ·
          refine lv_tableIn (off := 603) (tgt := 635) hx hb dL_law_32 (by decide) (by decide) rfl (by decide) ?_
          exact law_c18 l hC hX hbl hLx (by omega) (by omega) hle hW hA hB ls hl kk
        ·
          refine lv_tableIn (off := 626) (tgt := 658) hx hb dL_law_32 (by decide) (by decide) rfl (by decide) ?_
          exact law_c19 l hC hX hbl hLx (by omega) (by omega) hle hW hA hB ls hl kk
        ·
          refine lv_tableIn (off := 680) (tgt := 712) hx hb dL_law_32 (by decide) (by decide) rfl (by decide) ?_
          exact law_c20 l hC hX hbl hLx (by omega) (by omega) hle hW hA hB ls hl kk
        ·
          refine lv_tableIn (off := 693) (tgt := 725) hx hb dL_law_32 (by decide) (by decide) rfl (by decide) ?_
          exact law_c21 l hC hX hbl hLx (by omega) (by omega) hle hW hA hB ls hl kk
        ·
          refine lv_tableIn (off := 717) (tgt := 749) hx hb dL_law_32 (by decide) (by decide) rfl (by decide) ?_
          exact law_c22 l hC hX hbl hLx (by omega) (by omega) hle hW hA hB ls hl kk
        ·
          refine lv_tableIn (off := 741) (tgt := 773) hx hb dL_law_32 (by decide) (by decide) rfl (by decide) ?_
          exact law_c23 l hC hX hbl hLx (by omega) (by omega) hle hW hA hB ls hl kk
        ·
          refine lv_tableIn (off := 764) (tgt := 796) hx hb dL_law_32 (by decide) (by decide) rfl (by decide) ?_
          exact law_c24 l hC hX hbl hLx (by omega) (by omega) hle hW hA hB ls hl kk
        ·
          refine lv_tableIn (off := 777) (tgt := 809) hx hb dL_law_32 (by decide) (by decide) rfl (by decide) ?_
          exact law_c25 l hC hX hbl hLx (by omega) (by omega) hle hW hA hB ls hl kk
        ·
          refine lv_tableIn (off := 800) (tgt := 832) hx hb dL_law_32 (by decide) (by decide) rfl (by decide) ?_
          exact law_c26 l hC hX hbl hLx (by omega) (by omega) hle hW hA hB ls hl kk
set_option maxRecDepth 100000 in
set_option maxHeartbeats 4000000 in
theorem law_begin {p : Program} {e : Env} {s : State} {m : MethodId} {below : List Frame} {meth : Method} {c : Code} (l : Launch) {b Lx : Nat} {xs : Nat → Int32} (hr : meth.sig.returnType = ret) (hlocks : meth.locks = false) (hC : CallFix p m c cL_law 4 s #[Value.ref b] GW "CoinRowsLaw") (hX : va_X b Lx xs s s.heap) (hbl : b < s.heap.size) (hLx : Lx ≤ 2560) {G : Gx} {ad : Nat → Nat} {I : Ic} {L : Lc} {R : Rc} (hW : Wd G 0 ad I L R (fun q => s.heap.size ≤ q) s.heap s.heap [] s) (ls : Array Slot) (hl : lv_has ls 4 [(0, .ref b)]) : W p l e room_1 s m #[Value.ref b] below meth c s.heap [] 0 0 (lw_Z below #[Value.ref b] s) (F0 m 0 ls []) := by
  have hx := hC.1
  have hb := hC.2.1
  have hcl : Cl 0 R := fun k j y hk => absurd hk (by omega)
  refine q_nwo5 hC hW hcl kd_0 gw_11 (Nat.le_of_ble_eq_true rfl) (Nat.le_of_ble_eq_true rfl) dL_law_0 (fun ad_0 H hag_0 hcl_0 hW => ?_)
  refine lv_dup hx hb dL_law_3 rfl ?_
  refine q_kV2 (q_rI (As := []) (rest := [.ref (ad_0 0)]) (x := 0) hC hW mw_X5_init gw_13 (k_initX l G ad_0 H.size (zr I 0 0) (zr L 0 0) (zr R 0 none) hcl_0) ⟨rfl, rfl⟩ ⟨Nat.le_of_ble_eq_true rfl, Nat.le_of_ble_eq_true rfl⟩ ⟨(Nat.le_of_ble_eq_true rfl), (Nat.le_of_ble_eq_true rfl)⟩ hl.1 rfl rfl (Nat.le_of_ble_eq_true rfl) dL_law_4) hW (fun n_4 ad_4 I_4 L_4 R_4 H locs hp hW => ?_)
  have hN_4 := hp
  obtain ⟨⟨hnn, hag_4, -, hcl_4, -⟩, -⟩ := hp
  have hnn : 71 = n_4 := hnn
  subst hnn
  have hag_4 : ∀ k, k < 0 + 1 → ad_4 k = ad_0 k := hag_4
  have hcl_4 : Cl 71 R_4 := hcl_4
  refine W.eq (g2 := F0 m 7 ls [.ref (ad_4 0)]) (by rw [hag_4 0 (by omega)]) ?_
  refine lv_astore_n (lv' := [(1, .ref (ad_4 0)), (0, .ref b)]) hx hb dL_law_7 rfl hl (by decide) rfl (fun ls hl => ?_)
  refine q_nwo6 hC hW hcl_4 kd_71 gw_477 (Nat.le_of_ble_eq_true rfl) (Nat.le_of_ble_eq_true rfl) dL_law_8 (fun ad_8 H hag_8 hcl_8 hW => ?_)
  have hl : lv_has ls 4 [(1, .ref (ad_8 0)), (0, .ref b)] := by rw [hag_8 0 (by omega)]; exact hl
  refine lv_dup hx hb dL_law_11 rfl ?_
  refine q_kV2 (q_rI (As := []) (rest := [.ref (ad_8 71)]) (x := 71) hC hW mw_X6_init gw_479 (k_initY l G ad_8 H.size (zr I_4 71 0) (zr L_4 71 0) (zr R_4 71 none) (show zr I_4 71 0 71 2 = nI 0 from (congrFun zr_eq 2).trans (show (0 : Int32) = nI 0 by decide)) (show zr I_4 71 0 71 6 = nI 0 from (congrFun zr_eq 6).trans (show (0 : Int32) = nI 0 by decide)) hcl_8) ⟨rfl, rfl⟩ ⟨Nat.le_of_ble_eq_true rfl, Nat.le_of_ble_eq_true rfl⟩ ⟨(Nat.le_of_ble_eq_true rfl), (Nat.le_of_ble_eq_true rfl)⟩ hl.1 rfl rfl (Nat.le_of_ble_eq_true rfl) dL_law_12) hW (fun n_12 ad_12 I_12 L_12 R_12 H locs hp hW => ?_)
  have hN_12 := hp
  obtain ⟨⟨hnn, hag_12, -, hcl_12, -⟩, -⟩ := hp
  have hnn : 83 = n_12 := hnn
  subst hnn
  have hag_12 : ∀ k, k < 71 + 1 → ad_12 k = ad_8 k := hag_12
  have hcl_12 : Cl 83 R_12 := hcl_12
  have hl : lv_has ls 4 [(1, .ref (ad_12 0)), (0, .ref b)] := by rw [hag_12 0 (by omega)]; exact hl
  refine W.eq (g2 := F0 m 15 ls [.ref (ad_12 71)]) (by rw [hag_12 71 (by omega)]) ?_
  refine lv_astore_n (lv' := [(2, .ref (ad_12 71)), (1, .ref (ad_12 0)), (0, .ref b)]) hx hb dL_law_15 rfl hl (by decide) rfl (fun ls hl => ?_)
  refine q_ic 0 hx hb dL_law_16 (by decide) ?_
  refine lv_istore_n (lv' := [(3, .int (nI 0)), (2, .ref (ad_12 71)), (1, .ref (ad_12 0)), (0, .ref b)]) hx hb dL_law_17 rfl hl (by decide) rfl (fun ls hl => ?_)
  have hI := Inv_00 hN_4 hN_12
  exact law_loop l hr hlocks hC hX hbl hLx (Lx + 1) 0 83 ad_12 I_12 L_12 R_12 S00 H locs (by omega) (by omega) hW hI.1 hI.2 ls (lv_sub hl [0, 1, 2, 3] rfl)
/-- YOUR PART: from the entry, for every script of at most 2560 ints, the law comes to its end with true ('hflags': the launch's flags, for a law that throws: no stack traces) -/
theorem whole_start {p : Program} {e : Env} {s : State} {m : MethodId} {below : List Frame} {meth : Method} {c : Code} (l : Launch) (hflags : l.flags = flags0) {b L : Nat} {xs : Nat → Int32} (hL : L ≤ 2560) (C0 : lw_At p s m meth c b L xs) : W p l e room_1 s m #[Value.ref b] below meth c s.heap [] 0 0 (lw_Z below #[Value.ref b] s) (entryFrame m ([Value.ref b] : List Value).toArray 4) := by
  obtain ⟨hx, hb, hr, hml, hown, hts, hX, hbl, hlocks, hgv⟩ := id C0
  obtain ⟨G, hK, hNB⟩ := lw_known hts
  have hC : CallFix p m c cL_law 4 s #[Value.ref b] GW "CoinRowsLaw" := ⟨hx, hb, hml, hown, fun w hw => hts w (List.mem_filter.mp hw).1⟩
  have hW : Wd G 0 (fun _ => 0) (fun _ _ => 0) (fun _ _ => 0) (fun _ _ => none) (fun q => s.heap.size ≤ q) s.heap s.heap [] s := ⟨fun k q h => by simp [wl] at h, hK, ⟨fun i j p q h => by simp [wl] at h, fun k q h => by simp [wl] at h⟩, va_S.rf, fun _ h => h, hNB⟩
  have hl := lv_entry ([.ref b]) (n := 4) (Nat.le_of_ble_eq_true rfl)
  rw [lg_entry_eq]
  generalize (lg_sl ([.ref b]) ++ List.replicate (4 - (lg_sl ([.ref b])).length) Slot.unset).toArray = ls at hl ⊢
  have hl : lv_has ls 4 [(0, .ref b)] := hl
  exact law_begin l hr hlocks hC hX hbl hL hW ls hl
-- ===== YOUR PART ENDS =====
set_option maxHeartbeats 4000000 in
theorem lw_walk (l : Launch) (hflags : l.flags = flags0) (b : Addr) (xs : List Int32) : MetFree l x (headSpec (Jvm.Cond.code x code maxLocals ret :: tables_1) room_1) (lw_P b xs) (fun _ _ _ _ _ => True) lw_Q := by
  refine MetFree.of_bodyS (code := code) (maxLocals := maxLocals) (ret := ret) (by decide) ?_ ?_
  · intro args s m h hn
    obtain ⟨meth, c, h1, h2, h3, h4, h5, h6, -, -⟩ := Cond.code_spec hn (atoms_spec (ws := Jvm.Cond.code x code maxLocals ret :: tables_1) h _ List.mem_cons_self)
    exact ⟨meth, c, h1, h2, h3, h4, h5, h6⟩
  · intro p e s m args below meth c s₁ B hml0 hP _
    obtain ⟨rfl, hx, hbd, hgv⟩ := hP
    obtain ⟨scr, harrAt, hlist, hof, hsmall⟩ := hx
    obtain ⟨hcb, hkn, -, -⟩ := State.arrayAt?_spec harrAt
    have hown : s.vm.findClass R_law = some m.cls := findClass_of_methodNamed B.named
    have hts0 : ∀ c ∈ (Jvm.Cond.code x code maxLocals ret :: tables_1), c.before #[Value.ref b] s = true := atoms_spec (ws := Jvm.Cond.code x code maxLocals ret :: tables_1) B.pre
    have hts : ∀ w ∈ lw_tbl, w.before #[Value.ref b] s = true := k2_hts_sels lw_privs (fun w hw => hts0 w (List.mem_cons_of_mem _ hw)) lw_privs_ok
    have hml : c.maxLocals = 4 := B.maxLocals_eq (hts0 _ List.mem_cons_self)
    have X₀ : Stand p l e room_1 s m #[Value.ref b] below meth c s₁ [] 0 0 := Stand.of_body B
    have hh0 : s₁.heap = s.heap := by rw [B.state]; rfl
    have hsz : scr.slots.size = xs.length := by rw [← Array.length_toList, hlist, List.length_map]
    have hval : ∀ j : Nat, j < xs.length → scr.slots[j]? = some (.int (xs.getD j 0)) := fun j hj => by
      rw [← Array.getElem?_toList, hlist]
      simp [hj]
    have hbl : b < s.heap.size := (Array.getElem?_eq_some_iff.mp hcb).1
    have hX : va_X b xs.length (fun j => xs.getD j 0) s s.heap := ⟨scr, hcb, hof, hkn, hsz, hval⟩
    have K : W p l e room_1 s m #[Value.ref b] below meth c s₁.heap [] 0 0 (lw_Z below #[Value.ref b] s) (entryFrame m ([Value.ref b] : List Value).toArray 4) := by
      rw [hh0]
      exact whole_start l hflags hbd ⟨B.exec, B.bytes, B.returns, hml, hown, hts, hX, hbl, B.notSynchronized, hgv⟩
    obtain ⟨t, a1, o, b1, b2, b3⟩ := K s₁ rfl X₀
    exact ⟨t, o, a1, b1, b2, b3⟩
theorem lw_pre_spec {args : Array Value} {s : State} (h : (Jvm.Cond.and given_1 narrow_1).before args s = true) (hr : rest_1_c.before args s = true) : ∃ (b : Addr) (xs : List Int32), lw_P b xs args s := by
  have hs := flat_of_before _ h
  have hq := flat_of_before _ hr
  have hc : (Cond.count 1).before args s = true := hs _ (by decide +kernel)
  have harr : (Cond.arrayOf (.arg 0) .int).before args s = true := hs _ (by decide +kernel)
  have hle : (Cond.le (.length (.arg 0)) (.int 2560)).before args s = true := hs _ (by decide +kernel)
  have hlen : (Cond.isInt (.length (.arg 0))).before args s = true := hq _ (by decide +kernel)
  have hall : (Cond.all (.arg 0) (.isInt (.elem (.arg 0) (.index 0)))).before args s = true := hq _ (by decide +kernel)
  obtain ⟨b, xs, hb, hx⟩ := State.ints_of_pre rfl harr hlen hall
  have hsm : xs.length < 2 ^ 31 := hx.choose_spec.2.2.2
  have hev : (Term.length (.arg 0)).eval args s none [] s = some (.int xs.length.toInt32) := hx.length_eval hb
  have hv := Cond.le_ints hev (show (Term.int 2560).eval args s none [] s = some (.int 2560) from rfl)
  have hd : xs.length.toInt32 ≤ 2560 := by
    simpa [Cond.before, Cond.holds, hv] using hle
  have hN : xs.length ≤ 2560 := (Int32.ofNat_le_ofNat hsm (by decide)).mp (show Int32.ofNat xs.length ≤ Int32.ofNat 2560 from hd)
  exact ⟨b, xs, Cond.one_arg hc (show args[0]? = some (.ref b) from hb), hx, hN, h⟩
theorem lw_comes (l : Launch) (hflags : l.flags = flags0) : Comes l x (Jvm.Cond.code x code maxLocals ret :: tables_1) room_1 (fun tb e args s => Calls_1 tb e args s ∧ rest_1 tb e args s ∧ Pre_1 tb e args s)
    (fun _ _ args s o t => lw_Q args s o t) := by
  intro p e ha hc hk s m args below hf hfit hheap happ hpre
  obtain ⟨b, xs, hP⟩ := lw_pre_spec hpre.2.2 hpre.2.1
  obtain ⟨k, o, h1, h2, h3, hQ⟩ := lw_walk l hflags b xs p e ha hc hk s m args below hf ((Spec.applies_iff_loose hf).mp happ).1 hP trivial
  exact ⟨k, o, h1, h2, h3, hQ⟩
theorem lw_frame {s t : State} {o : Outcome} {args : Array Value} (h : State.butDraws s t lw_cs (fun t1 => Framed s o t1 [] 600000 7302250)) :
    State.butDraws s t [Jvm.Choice.named "NaN.bits"] (fun t1 => Framed s o t1 (fieldLocs frame_1_writes args s ++ arrayLocs frame_1_arrays args s ++ staticLocs frame_1_statics s) 600000 7302250) := h
theorem lw_limb (L : Cond) (hL : ∀ (args : Array Value) (s t : State), L.after args s (.returned (some (.int 1))) t = true) :
    ArmFor flags0 classFile x code maxLocals ret World_1 tables_1 room_1 Calls_1 rest_1 Pre_1
      (fun tb e a s o t => postC L tb e a s o t ∧ State.butDraws s t [Jvm.Choice.named "NaN.bits"] (fun t1 => Framed s o t1 (fieldLocs frame_1_writes a s ++ arrayLocs frame_1_arrays a s ++ staticLocs frame_1_statics s) 600000 7302250)) := by
  intro l hflags _ _ p e ha hc hk s m args below hf hfit hheap happ hpre
  obtain ⟨k, o, h1, h2, h3, rfl, hF⟩ := lw_comes l hflags p e ha hc hk s m args below hf hfit hheap happ hpre
  exact ⟨k, _, h1, h2, h3, hL args s _, lw_frame hF⟩
theorem i_vc : Claimed_1_1 ∧ Claimed_1_2 := ⟨lw_limb limb_1_1 (fun args s t => by simp [limb_1_1, Cond.after, Cond.holds, Cond.value]), lw_limb limb_1_2 (fun args s t => Cond.after_iff.mpr (by
  first | (rw [show limb_1_2 = Cond.eq .result (.int 1) from rfl, Cond.eq_ints (x := 1) (y := 1) rfl rfl]; simp; done) | (simp [limb_1_2, Cond.value, Term.eval]; done)))⟩

