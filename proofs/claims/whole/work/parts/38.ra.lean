-- the model of the judge: one row of numbers
def rwt (w : Nat → Nat) (i : Nat) : Nat := if i < 6 then w (36 + i) else if i < 42 then w (i - 6) else w i
def rj (j : Nat) : Nat := if j < 36 then 6 + j else if j < 42 then j - 36 else j
theorem rwt_st (w : Nat → Nat) {f t : Nat} (hf : f < 6) (ht : t < 6) : rwt w (6 + 6 * f + t) = w (f * 6 + t) := by
  unfold rwt
  rw [if_neg (by omega), if_pos (by omega)]
  congr 1
  omega
theorem rwt_le (w : Nat → Nat) {c l : Nat} : rwt w (42 + 4 * c + l) = w (42 + c * 4 + l) := by
  unfold rwt
  rw [if_neg (by omega), if_neg (by omega)]
  congr 1
  omega
theorem rwt_b (w : Nat → Nat) {t : Nat} (ht : t < 6) : rwt w t = w (6 * 6 + t) := by
  unfold rwt
  rw [if_pos ht]
theorem rwt_rj (w : Nat → Nat) {j : Nat} : rwt w (rj j) = w j := by
  unfold rwt rj
  by_cases h1 : j < 36
  · rw [if_pos h1, if_neg (by omega), if_pos (by omega)]
    congr 1
    omega
  · rw [if_neg h1]
    by_cases h2 : j < 42
    · rw [if_pos h2, if_pos (by omega)]
      congr 1
      omega
    · rw [if_neg h2, if_neg (by omega), if_neg (by omega)]
theorem rj_lt {j : Nat} (h : j < 58) : rj j < 58 := by unfold rj; split <;> (try split) <;> omega
theorem rj_inj {i j : Nat} (h : rj i = rj j) (hi : i < 58) (hj : j < 58) : i = j := by
  unfold rj at h
  by_cases a1 : i < 36
  · rw [if_pos a1] at h
    by_cases b1 : j < 36
    · rw [if_pos b1] at h; omega
    · rw [if_neg b1] at h
      by_cases b2 : j < 42
      · rw [if_pos b2] at h; omega
      · rw [if_neg b2] at h; omega
  · rw [if_neg a1] at h
    by_cases a2 : i < 42
    · rw [if_pos a2] at h
      by_cases b1 : j < 36
      · rw [if_pos b1] at h; omega
      · rw [if_neg b1] at h
        by_cases b2 : j < 42
        · rw [if_pos b2] at h; omega
        · rw [if_neg b2] at h; omega
    · rw [if_neg a2] at h
      by_cases b1 : j < 36
      · rw [if_pos b1] at h; omega
      · rw [if_neg b1] at h
        by_cases b2 : j < 42
        · rw [if_pos b2] at h; omega
        · rw [if_neg b2] at h; omega
theorem rj_ex {i : Nat} (h : i < 58) : ∃ j, j < 58 ∧ i = rj j := by
  by_cases h1 : i < 6
  · exact ⟨36 + i, by omega, by unfold rj; rw [if_neg (by omega), if_pos (by omega)]; omega⟩
  · by_cases h2 : i < 42
    · exact ⟨i - 6, by omega, by unfold rj; rw [if_pos (by omega)]; omega⟩
    · exact ⟨i, h, by unfold rj; rw [if_neg (by omega), if_neg (by omega)]⟩
def NwI (g : Nat → Int32) (w : Nat → Nat) (K : Nat) (ro : Nat → Nat) : Prop := (∀ i, i < 58 → g i = nI (rwt w i)) ∧ g 58 = nI K ∧ (∀ j, j < K → g (60 + j) = nI (ro j)) ∧ K ≤ 6 ∧ Wok w ∧ ∀ j, ro j < 4
abbrev NwA (g : Nat → Int32) (m : CM) : Prop := NwI g m.1 m.2.1 m.2.2
/-- the weight of going on with a weight given -/
def gov (w : Nat → Nat) (K : Nat) (ro : Nat → Nat) (v t d : Nat) : Nat := if 4 ≤ t then v else if d < K then v * w (42 + t * 4 + ro d) else 0
theorem gov_mv (w : Nat → Nat) (K : Nat) (ro : Nat → Nat) (f t d : Nat) : gov w K ro (w (f * 6 + t)) t d = mv w K ro f t d := rfl
theorem gov_b {w : Nat → Nat} {K : Nat} {ro : Nat → Nat} (hw : Wok w) {v : Nat} (hv : v ≤ 3) (t d : Nat) : gov w K ro v t d ≤ 9 := by
  have h2 := hw.1 (42 + t * 4 + ro d)
  unfold gov
  split
  · omega
  · split
    · have := Nat.mul_le_mul hv h2; omega
    · omega

set_option maxRecDepth 100000 in
set_option maxHeartbeats 4000000 in
theorem k_in (l : Launch) (G : Gx) (n : Nat) (ad : Nat → Nat) (sz : Nat) (I : Ic) (L : Lc) (R : Rc) (v lo up : Int32) : Met l yX6_in (Cond.code yX6_in cX6_in 3 (some .boolean) :: GW) ({ frames := 0, cells := 0, slots := 0, locals := 0 } : Room) (qPre G n ad sz I L R [.int (v), .int (lo), .int (up)]) (qI0 G (qA n ad sz) (n, ad, I, L, R) (fun z => (z = nI 1 ∧ lo.toInt ≤ v.toInt ∧ v.toInt ≤ up.toInt) ∨ (z = nI 0 ∧ ¬ (lo.toInt ≤ v.toInt ∧ v.toInt ≤ up.toInt)))) 0 0 (qA n ad sz) := by
  refine q_met (by decide) (Nat.le_of_ble_eq_true rfl) ?_
  intro p_ e_ s m_ below meth c_ hC hr hlk0 hin hsz hW ls hl
  subst hsz
  have hC : CallFix p_ m_ c_ cX6_in 3 s ([.int (v), .int (lo), .int (up)] : List Value).toArray GW "CoinRowsModel" := hC
  have hx := hC.1
  have hb := hC.2.1
  have hl : lv_has ls 3 [(0, .int (v)), (1, .int (lo)), (2, .int (up))] := hl
  refine lv_iload_n hx hb dX6_in_0 rfl (lv_at hl 0 rfl) ?_
  refine lv_iload_n hx hb dX6_in_1 rfl (lv_at hl 1 rfl) ?_
  refine lv_icmp_lt (tgt := 14) hx hb dX6_in_2 (by decide) (fun c_2 => ?_) (fun c_2 => ?_)
  ·
    refine q_ic 0 hx hb dX6_in_14 (by decide) ?_
    simp only [Int32.lt_iff_toInt_lt, Int32.le_iff_toInt_le] at c_2
    exact q_zret0 hC hW hr hlk0 rfl (Or.inr ⟨rfl, by omega⟩) dX6_in_15
  ·
    refine lv_iload_n hx hb dX6_in_5 rfl (lv_at hl 0 rfl) ?_
    refine lv_iload_n hx hb dX6_in_6 rfl (lv_at hl 2 rfl) ?_
    refine lv_icmp_gt (tgt := 14) hx hb dX6_in_7 (by decide) (fun c_7 => ?_) (fun c_7 => ?_)
    ·
      refine q_ic 0 hx hb dX6_in_14 (by decide) ?_
      simp only [Int32.lt_iff_toInt_lt, Int32.le_iff_toInt_le] at c_2 c_7
      exact q_zret0 hC hW hr hlk0 rfl (Or.inr ⟨rfl, by omega⟩) dX6_in_15
    ·
      refine q_ic 1 hx hb dX6_in_10 (by decide) ?_
      refine lv_goto (tgt := 15) hx hb dX6_in_11 (by decide) ?_
      simp only [Int32.lt_iff_toInt_lt, Int32.le_iff_toInt_le] at c_2 c_7
      exact q_zret0 hC hW hr hlk0 rfl (Or.inl ⟨rfl, by omega, by omega⟩) dX6_in_15
set_option maxRecDepth 100000 in
set_option maxHeartbeats 4000000 in
theorem k_isNought (l : Launch) (G : Gx) (n : Nat) (ad : Nat → Nat) (sz : Nat) (I : Ic) (L : Lc) (R : Rc) (f t : Nat) (hf : f < 6) (ht : t < 6) : Met l yX6_isNought (Cond.code yX6_isNought cX6_isNought 2 (some .boolean) :: GW) ({ frames := 0, cells := 0, slots := 0, locals := 0 } : Room) (qPre G n ad sz I L R [.int (nI (f)), .int (nI (t))]) (qI0 G (qA n ad sz) (n, ad, I, L, R) (fun z => (barred f t ∧ z = nI 1) ∨ (¬ barred f t ∧ z = nI 0))) 0 0 (qA n ad sz) := by
  refine q_met (by decide) (Nat.le_of_ble_eq_true rfl) ?_
  intro p_ e_ s m_ below meth c_ hC hr hlk0 hin hsz hW ls hl
  subst hsz
  have hC : CallFix p_ m_ c_ cX6_isNought 2 s ([.int (nI (f)), .int (nI (t))] : List Value).toArray GW "CoinRowsModel" := hC
  have hx := hC.1
  have hb := hC.2.1
  have hl : lv_has ls 2 [(0, .int (nI (f))), (1, .int (nI (t)))] := hl
  refine lv_iload_n hx hb dX6_isNought_0 rfl (lv_at hl 0 rfl) ?_
  refine lv_iload_n hx hb dX6_isNought_1 rfl (lv_at hl 1 rfl) ?_
  refine q_cne (tgt := 10) hx hb dX6_isNought_2 (by decide) (by first | omega | exact Nat.lt_of_le_of_lt (hw3 _) (by decide)) (by first | omega | exact Nat.lt_of_le_of_lt (hw3 _) (by decide)) (fun c_2 => ?_) (fun c_2 => ?_)
  ·
    refine lv_iload_n hx hb dX6_isNought_10 rfl (lv_at hl 0 rfl) ?_
    refine q_ic 5 hx hb dX6_isNought_11 (by decide) ?_
    refine q_cne (tgt := 24) hx hb dX6_isNought_12 (by decide) (by first | omega | exact Nat.lt_of_le_of_lt (hw3 _) (by decide)) (by first | omega | exact Nat.lt_of_le_of_lt (hw3 _) (by decide)) (fun c_12 => ?_) (fun c_12 => ?_)
    ·
      refine q_ic 0 hx hb dX6_isNought_24 (by decide) ?_
      exact q_zret0 hC hW hr hlk0 rfl (Or.inr ⟨fun h => by have := h.1; have := h.2.1; have := h.2.2; omega, rfl⟩) dX6_isNought_25
    ·
      refine lv_iload_n hx hb dX6_isNought_15 rfl (lv_at hl 1 rfl) ?_
      refine q_ic 4 hx hb dX6_isNought_16 (by decide) ?_
      refine q_cne (tgt := 24) hx hb dX6_isNought_17 (by decide) (by first | omega | exact Nat.lt_of_le_of_lt (hw3 _) (by decide)) (by first | omega | exact Nat.lt_of_le_of_lt (hw3 _) (by decide)) (fun c_17 => ?_) (fun c_17 => ?_)
      ·
        refine q_ic 0 hx hb dX6_isNought_24 (by decide) ?_
        exact q_zret0 hC hW hr hlk0 rfl (Or.inr ⟨fun h => by have := h.1; have := h.2.1; have := h.2.2; omega, rfl⟩) dX6_isNought_25
      ·
        refine q_ic 1 hx hb dX6_isNought_20 (by decide) ?_
        refine lv_goto (tgt := 25) hx hb dX6_isNought_21 (by decide) ?_
        exact q_zret0 hC hW hr hlk0 rfl (Or.inl ⟨⟨by omega, by omega, by omega⟩, rfl⟩) dX6_isNought_25
  ·
    refine lv_iload_n hx hb dX6_isNought_5 rfl (lv_at hl 0 rfl) ?_
    refine q_ic 3 hx hb dX6_isNought_6 (by decide) ?_
    refine q_cgt (tgt := 20) hx hb dX6_isNought_7 (by decide) (by first | omega | exact Nat.lt_of_le_of_lt (hw3 _) (by decide)) (by first | omega | exact Nat.lt_of_le_of_lt (hw3 _) (by decide)) (fun c_7 => ?_) (fun c_7 => ?_)
    ·
      refine q_ic 1 hx hb dX6_isNought_20 (by decide) ?_
      refine lv_goto (tgt := 25) hx hb dX6_isNought_21 (by decide) ?_
      exact q_zret0 hC hW hr hlk0 rfl (Or.inl ⟨⟨by omega, by omega, by omega⟩, rfl⟩) dX6_isNought_25
    ·
      refine lv_iload_n hx hb dX6_isNought_10 rfl (lv_at hl 0 rfl) ?_
      refine q_ic 5 hx hb dX6_isNought_11 (by decide) ?_
      refine q_cne (tgt := 24) hx hb dX6_isNought_12 (by decide) (by first | omega | exact Nat.lt_of_le_of_lt (hw3 _) (by decide)) (by first | omega | exact Nat.lt_of_le_of_lt (hw3 _) (by decide)) (fun c_12 => ?_) (fun c_12 => ?_)
      ·
        refine q_ic 0 hx hb dX6_isNought_24 (by decide) ?_
        exact q_zret0 hC hW hr hlk0 rfl (Or.inr ⟨fun h => by have := h.1; have := h.2.1; have := h.2.2; omega, rfl⟩) dX6_isNought_25
      ·
        refine lv_iload_n hx hb dX6_isNought_15 rfl (lv_at hl 1 rfl) ?_
        refine q_ic 4 hx hb dX6_isNought_16 (by decide) ?_
        refine q_cne (tgt := 24) hx hb dX6_isNought_17 (by decide) (by first | omega | exact Nat.lt_of_le_of_lt (hw3 _) (by decide)) (by first | omega | exact Nat.lt_of_le_of_lt (hw3 _) (by decide)) (fun c_17 => ?_) (fun c_17 => ?_)
        ·
          refine q_ic 0 hx hb dX6_isNought_24 (by decide) ?_
          exact q_zret0 hC hW hr hlk0 rfl (Or.inr ⟨fun h => by have := h.1; have := h.2.1; have := h.2.2; omega, rfl⟩) dX6_isNought_25
        ·
          refine q_ic 1 hx hb dX6_isNought_20 (by decide) ?_
          refine lv_goto (tgt := 25) hx hb dX6_isNought_21 (by decide) ?_
          exact q_zret0 hC hW hr hlk0 rfl (Or.inl ⟨⟨by omega, by omega, by omega⟩, rfl⟩) dX6_isNought_25
set_option maxRecDepth 100000 in
set_option maxHeartbeats 4000000 in
theorem k_toldThen (l : Launch) (G : Gx) (n : Nat) (ad : Nat → Nat) (sz : Nat) (I : Ic) (L : Lc) (R : Rc) (t d : Nat) (ht : t < 1000) (hd : d < 1000) : Met l yX6_toldThen (Cond.code yX6_toldThen cX6_toldThen 2 (some .int) :: GW) ({ frames := 0, cells := 0, slots := 0, locals := 0 } : Room) (qPre G n ad sz I L R [.int (nI (t)), .int (nI (d))]) (qI0 G (qA n ad sz) (n, ad, I, L, R) (fun z => z = nI (nx t d))) 0 0 (qA n ad sz) := by
  refine q_met (by decide) (Nat.le_of_ble_eq_true rfl) ?_
  intro p_ e_ s m_ below meth c_ hC hr hlk0 hin hsz hW ls hl
  subst hsz
  have hC : CallFix p_ m_ c_ cX6_toldThen 2 s ([.int (nI (t)), .int (nI (d))] : List Value).toArray GW "CoinRowsModel" := hC
  have hx := hC.1
  have hb := hC.2.1
  have hl : lv_has ls 2 [(0, .int (nI (t))), (1, .int (nI (d)))] := hl
  refine lv_iload_n hx hb dX6_toldThen_0 rfl (lv_at hl 0 rfl) ?_
  refine q_ic 3 hx hb dX6_toldThen_1 (by decide) ?_
  refine q_cle (tgt := 9) hx hb dX6_toldThen_2 (by decide) (by first | omega | exact Nat.lt_of_le_of_lt (hw3 _) (by decide)) (by first | omega | exact Nat.lt_of_le_of_lt (hw3 _) (by decide)) (fun c_2 => ?_) (fun c_2 => ?_)
  ·
    refine lv_iload_n hx hb dX6_toldThen_9 rfl (lv_at hl 1 rfl) ?_
    refine q_ic 1 hx hb dX6_toldThen_10 (by decide) ?_
    refine q_iadd hx hb dX6_toldThen_11 ?_
    exact q_iret0 hC hW hr hlk0 (by unfold nx; rw [if_pos (by omega)]) dX6_toldThen_12
  ·
    refine lv_iload_n hx hb dX6_toldThen_5 rfl (lv_at hl 1 rfl) ?_
    refine lv_goto (tgt := 12) hx hb dX6_toldThen_6 (by decide) ?_
    exact q_iret0 hC hW hr hlk0 (by unfold nx; rw [if_neg (by omega)]) dX6_toldThen_12
set_option maxRecDepth 100000 in
set_option maxHeartbeats 4000000 in
theorem k_step (l : Launch) (G : Gx) (n : Nat) (ad : Nat → Nat) (sz : Nat) (I : Ic) (L : Lc) (R : Rc) (f t : Nat) (hf : f < 6) (ht : t < 6) (w : Nat → Nat) (K : Nat) (ro : Nat → Nat) (hn : 83 ≤ n) (hlk : LkOK n R) (hN : NwI (I 72) w K ro) : Met l yX6_step (Cond.code yX6_step cX6_step 3 (some .int) :: GW) ({ frames := 0, cells := 0, slots := 0, locals := 0 } : Room) (qPre G n ad sz I L R [.ref (ad 71), .int (nI (f)), .int (nI (t))]) (qI0 G (qA n ad sz) (n, ad, I, L, R) (fun z => z = nI (w (f * 6 + t)))) 0 0 (qA n ad sz) := by
  refine q_met (by decide) (Nat.le_of_ble_eq_true rfl) ?_
  intro p_ e_ s m_ below meth c_ hC hr hlk0 hin hsz hW ls hl
  subst hsz
  have hC : CallFix p_ m_ c_ cX6_step 3 s ([.ref (ad 71), .int (nI (f)), .int (nI (t))] : List Value).toArray GW "CoinRowsModel" := hC
  have hx := hC.1
  have hb := hC.2.1
  have hk6 : K ≤ 6 := hN.2.2.2.1
  have hw : Wok w := hN.2.2.2.2.1
  have hw3 : ∀ i, w i ≤ 3 := hw.1
  have hr4 : ∀ j, ro j < 4 := hN.2.2.2.2.2
  have hl : lv_has ls 3 [(0, .ref (ad 71)), (1, .int (nI (f))), (2, .int (nI (t)))] := hl
  refine lv_aload_n hx hb dX6_step_0 rfl (lv_at hl 0 rfl) ?_
  refine g_6_0 (x := 71) (y := 72) hC hW (by omega) kd_71 gw_483 (hlk 71 0 72 (by omega) rfl) dX6_step_1 ?_
  refine q_bp 6 hx hb dX6_step_4 (by decide) ?_
  refine q_bp 6 hx hb dX6_step_6 (by decide) ?_
  refine lv_iload_n hx hb dX6_step_8 rfl (lv_at hl 1 rfl) ?_
  refine q_imul hx hb dX6_step_9 ?_
  refine q_iadd hx hb dX6_step_10 ?_
  refine lv_iload_n hx hb dX6_step_11 rfl (lv_at hl 2 rfl) ?_
  refine q_iadd hx hb dX6_step_12 ?_
  refine q_iald (x := 72) (i := (6 + (6 * f)) + t) hC hW (by omega) kd_72 (by omega) dX6_step_13 ?_
  refine q_top (v2 := .int (nI (w (f * 6 + t)))) (congrArg _ ((hN.1 _ (by omega)).trans (congrArg nI (rwt_st w (by omega) (by omega))))) ?_
  exact q_iret0 hC hW hr hlk0 rfl dX6_step_14
set_option maxRecDepth 100000 in
set_option maxHeartbeats 4000000 in
theorem k_tells (l : Launch) (G : Gx) (n : Nat) (ad : Nat → Nat) (sz : Nat) (I : Ic) (L : Lc) (R : Rc) (c p0 : Nat) (hc : c < 4) (w : Nat → Nat) (K : Nat) (ro : Nat → Nat) (hn : 83 ≤ n) (hlk : LkOK n R) (hN : NwI (I 72) w K ro) (hpK : p0 < K) : Met l yX6_tells (Cond.code yX6_tells cX6_tells 3 (some .int) :: GW) ({ frames := 0, cells := 0, slots := 0, locals := 0 } : Room) (qPre G n ad sz I L R [.ref (ad 71), .int (nI (c)), .int (nI (p0))]) (qI0 G (qA n ad sz) (n, ad, I, L, R) (fun z => z = nI (w (42 + c * 4 + ro p0)))) 0 0 (qA n ad sz) := by
  refine q_met (by decide) (Nat.le_of_ble_eq_true rfl) ?_
  intro p_ e_ s m_ below meth c_ hC hr hlk0 hin hsz hW ls hl
  subst hsz
  have hC : CallFix p_ m_ c_ cX6_tells 3 s ([.ref (ad 71), .int (nI (c)), .int (nI (p0))] : List Value).toArray GW "CoinRowsModel" := hC
  have hx := hC.1
  have hb := hC.2.1
  have hk6 : K ≤ 6 := hN.2.2.2.1
  have hw : Wok w := hN.2.2.2.2.1
  have hw3 : ∀ i, w i ≤ 3 := hw.1
  have hr4 : ∀ j, ro j < 4 := hN.2.2.2.2.2
  have hrp := hr4 p0
  have hl : lv_has ls 3 [(0, .ref (ad 71)), (1, .int (nI (c))), (2, .int (nI (p0)))] := hl
  refine lv_aload_n hx hb dX6_tells_0 rfl (lv_at hl 0 rfl) ?_
  refine g_6_0 (x := 71) (y := 72) hC hW (by omega) kd_71 gw_483 (hlk 71 0 72 (by omega) rfl) dX6_tells_1 ?_
  refine q_bp 42 hx hb dX6_tells_4 (by decide) ?_
  refine q_ic 4 hx hb dX6_tells_6 (by decide) ?_
  refine lv_iload_n hx hb dX6_tells_7 rfl (lv_at hl 1 rfl) ?_
  refine q_imul hx hb dX6_tells_8 ?_
  refine q_iadd hx hb dX6_tells_9 ?_
  refine lv_aload_n hx hb dX6_tells_10 rfl (lv_at hl 0 rfl) ?_
  refine g_6_0 (x := 71) (y := 72) hC hW (by omega) kd_71 gw_483 (hlk 71 0 72 (by omega) rfl) dX6_tells_11 ?_
  refine q_bp 60 hx hb dX6_tells_14 (by decide) ?_
  refine lv_iload_n hx hb dX6_tells_16 rfl (lv_at hl 2 rfl) ?_
  refine q_iadd hx hb dX6_tells_17 ?_
  refine q_iald (x := 72) (i := 60 + p0) hC hW (by omega) kd_72 (by omega) dX6_tells_18 ?_
  refine q_top (v2 := .int (nI (ro p0))) (congrArg _ (hN.2.2.1 _ (by omega))) ?_
  refine q_iadd hx hb dX6_tells_19 ?_
  refine q_iald (x := 72) (i := (42 + (4 * c)) + (ro p0)) hC hW (by omega) kd_72 (by omega) dX6_tells_20 ?_
  refine q_top (v2 := .int (nI (w (42 + c * 4 + (ro p0))))) (congrArg _ ((hN.1 _ (by first | omega | (have := hr4 (0); omega))).trans (congrArg nI (rwt_le w)))) ?_
  exact q_iret0 hC hW hr hlk0 rfl dX6_tells_21
set_option maxRecDepth 100000 in
set_option maxHeartbeats 4000000 in
theorem k_going (l : Launch) (G : Gx) (n : Nat) (ad : Nat → Nat) (sz : Nat) (I : Ic) (L : Lc) (R : Rc) (v t d : Nat) (hv : v ≤ 3) (ht : t < 6) (hd : d < 1000) (w : Nat → Nat) (K : Nat) (ro : Nat → Nat) (hn : 83 ≤ n) (hlk : LkOK n R) (hN : NwI (I 72) w K ro) : Met l yX6_going (Cond.code yX6_going cX6_going 4 (some .int) :: GW) ({ frames := 1, cells := 0, slots := 0, locals := 36 } : Room) (qPre G n ad sz I L R [.ref (ad 71), .int (nI (v)), .int (nI (t)), .int (nI (d))]) (qI0 G (qA n ad sz) (n, ad, I, L, R) (fun z => z = nI (gov w K ro v t d))) 0 0 (qA n ad sz) := by
  refine q_met (by decide) (Nat.le_of_ble_eq_true rfl) ?_
  intro p_ e_ s m_ below meth c_ hC hr hlk0 hin hsz hW ls hl
  subst hsz
  have hC : CallFix p_ m_ c_ cX6_going 4 s ([.ref (ad 71), .int (nI (v)), .int (nI (t)), .int (nI (d))] : List Value).toArray GW "CoinRowsModel" := hC
  have hx := hC.1
  have hb := hC.2.1
  have hk6 : K ≤ 6 := hN.2.2.2.1
  have hw : Wok w := hN.2.2.2.2.1
  have hw3 : ∀ i, w i ≤ 3 := hw.1
  have hr4 : ∀ j, ro j < 4 := hN.2.2.2.2.2
  have hl : lv_has ls 4 [(0, .ref (ad 71)), (1, .int (nI (v))), (2, .int (nI (t))), (3, .int (nI (d)))] := hl
  refine lv_iload_n hx hb dX6_going_0 rfl (lv_at hl 2 rfl) ?_
  refine q_ic 3 hx hb dX6_going_1 (by decide) ?_
  refine q_cle (tgt := 9) hx hb dX6_going_2 (by decide) (by first | omega | exact Nat.lt_of_le_of_lt (hw3 _) (by decide)) (by first | omega | exact Nat.lt_of_le_of_lt (hw3 _) (by decide)) (fun c_2 => ?_) (fun c_2 => ?_)
  ·
    refine lv_iload_n hx hb dX6_going_9 rfl (lv_at hl 3 rfl) ?_
    refine lv_aload_n hx hb dX6_going_10 rfl (lv_at hl 0 rfl) ?_
    refine g_6_0 (x := 71) (y := 72) hC hW (by omega) kd_71 gw_483 (hlk 71 0 72 (by omega) rfl) dX6_going_11 ?_
    refine q_bp 58 hx hb dX6_going_14 (by decide) ?_
    refine q_iald (x := 72) (i := 58) hC hW (by omega) kd_72 (by omega) dX6_going_16 ?_
    refine q_top (v2 := .int (nI (K))) (congrArg _ hN.2.1) ?_
    refine q_cge (tgt := 31) hx hb dX6_going_17 (by decide) (by first | omega | exact Nat.lt_of_le_of_lt (hw3 _) (by decide)) (by first | omega | exact Nat.lt_of_le_of_lt (hw3 _) (by decide)) (fun c_17 => ?_) (fun c_17 => ?_)
    ·
      refine q_ic 0 hx hb dX6_going_31 (by decide) ?_
      exact q_iret0 hC hW hr hlk0 (by unfold gov; rw [if_neg (by omega), if_neg (by omega)]) dX6_going_32
    ·
      refine lv_iload_n hx hb dX6_going_20 rfl (lv_at hl 1 rfl) ?_
      refine lv_aload_n hx hb dX6_going_21 rfl (lv_at hl 0 rfl) ?_
      refine lv_iload_n hx hb dX6_going_22 rfl (lv_at hl 2 rfl) ?_
      refine lv_iload_n hx hb dX6_going_23 rfl (lv_at hl 3 rfl) ?_
      refine q_kI0 (q_rV (As := [.int (nI (t)), .int (nI (d))]) (rest := [.int (nI (v))]) (x := 71) hC hW mw_X6_tells gw_594 (k_tells l G n ad s.heap.size I L R _ _ (by omega) w K ro hn hlk hN (by omega)) (by omega) (ct_o6 kd_71) rfl ⟨rfl, rfl⟩ ⟨Nat.le_of_ble_eq_true rfl, Nat.le_of_ble_eq_true rfl⟩ ⟨(Nat.le_of_ble_eq_true rfl), (Nat.le_of_ble_eq_true rfl)⟩ hl.1 rfl rfl (Nat.le_of_ble_eq_true rfl) dX6_going_24) hW (fun r_24 H locs hp hW => ?_)
      subst hp
      refine q_imul hx hb dX6_going_27 ?_
      refine lv_goto (tgt := 32) hx hb dX6_going_28 (by decide) ?_
      exact q_iret0 hC hW hr hlk0 (by unfold gov; rw [if_neg (by omega), if_pos (by omega)]) dX6_going_32
  ·
    refine lv_iload_n hx hb dX6_going_5 rfl (lv_at hl 1 rfl) ?_
    refine lv_goto (tgt := 32) hx hb dX6_going_6 (by decide) ?_
    exact q_iret0 hC hW hr hlk0 (by unfold gov; rw [if_pos (by omega)]) dX6_going_32
set_option maxRecDepth 100000 in
set_option maxHeartbeats 4000000 in
theorem k_placeOf (l : Launch) (G : Gx) (n : Nat) (ad : Nat → Nat) (sz : Nat) (I : Ic) (L : Lc) (R : Rc) (q : Nat) (hq : q < 3) (coin to : Int32) : Met l yX6_placeOf (Cond.code yX6_placeOf cX6_placeOf 3 (some .int) :: GW) ({ frames := 1, cells := 0, slots := 0, locals := 36 } : Room) (qPre G n ad sz I L R [.int (nI (q)), .int (coin), .int (to)]) (qI0 G (qA n ad sz) (n, ad, I, L, R) (fun z => (∃ i, idx q coin to = some i ∧ i < 58 ∧ z = nI (rj i)) ∨ (idx q coin to = none ∧ z = -6))) 0 0 (qA n ad sz) := by
  refine q_met (by decide) (Nat.le_of_ble_eq_true rfl) ?_
  intro p_ e_ s m_ below meth c_ hC hr hlk0 hin hsz hW ls hl
  subst hsz
  have hC : CallFix p_ m_ c_ cX6_placeOf 3 s ([.int (nI (q)), .int (coin), .int (to)] : List Value).toArray GW "CoinRowsModel" := hC
  have hx := hC.1
  have hb := hC.2.1
  have hl : lv_has ls 3 [(0, .int (nI (q))), (1, .int (coin)), (2, .int (to))] := hl
  refine lv_iload_n hx hb dX6_placeOf_0 rfl (lv_at hl 0 rfl) ?_
  have hq9 : q = 0 ∨ q = 1 ∨ q = 2 := by omega
  rcases hq9 with rfl | rfl | rfl
  ·
    refine lv_lookup (off := 27) (tgt := 28) hx hb dX6_placeOf_1 (by decide) (by decide) (by decide) ?_
    refine lv_iload_n hx hb dX6_placeOf_28 rfl (lv_at hl 1 rfl) ?_
    refine q_ic 0 hx hb dX6_placeOf_29 (by decide) ?_
    refine q_ic 5 hx hb dX6_placeOf_30 (by decide) ?_
    refine q_kI0 (q_rS (As := [.int (coin), .int (nI 0), .int (nI 5)]) (rest := []) hC hW mw_X6_in gw_537 (k_in l G n ad s.heap.size I L R _ _ _) ⟨rfl, rfl⟩ ⟨Nat.le_of_ble_eq_true rfl, Nat.le_of_ble_eq_true rfl⟩ ⟨(Nat.le_of_ble_eq_true rfl), (Nat.le_of_ble_eq_true rfl)⟩ hl.1 rfl rfl (Nat.le_of_ble_eq_true rfl) dX6_placeOf_31) hW (fun r_31 H locs hp hW => ?_)
    rw [show (nI 0).toInt = 0 by decide, (show (nI 5).toInt = 5 by decide)] at hp
    rcases hp with ⟨rfl, hx_31, hy_31⟩ | ⟨rfl, hx_31⟩
    ·
      obtain ⟨k_31, hk_31, rfl⟩ := rng_ex2 (N := 6) (x := coin) (by omega) (by omega) (by omega)
      refine q_ieq (tgt := 45) hx hb dX6_placeOf_34 (by decide) (by first | omega | exact Nat.lt_of_le_of_lt (hw3 _) (by decide)) (fun c_34 => absurd c_34 (by decide)) (fun c_34 => ?_)
      refine lv_iload_n hx hb dX6_placeOf_37 rfl (lv_at hl 2 rfl) ?_
      refine lv_if_ne (tgt := 45) hx hb dX6_placeOf_38 (by decide) (fun c_38 => ?_) (fun c_38 => ?_)
      ·
        have ht_9 : rng to 1 = none := by unfold rng; rw [if_neg (fun h => c_38 (Int32.toInt_inj.mp (by rw [show (0 : Int32).toInt = 0 by decide]; omega)))]
        refine lv_bipush (v := -6) hx hb dX6_placeOf_45 (by decide) ?_
        exact q_iret0 hC hW hr hlk0 (Or.inr ⟨(by simp [idx, rng_nI, hk_31, ht_9]), rfl⟩) dX6_placeOf_47
      ·
        obtain ⟨t_9, ht_9, rfl⟩ := rng_ex (N := 1) (x := to) (by decide) (by rw [show to = 0 from c_38]; decide) (by rw [show to = 0 from c_38]; decide)
        refine lv_iload_n hx hb dX6_placeOf_41 rfl (lv_at hl 1 rfl) ?_
        refine lv_goto (tgt := 47) hx hb dX6_placeOf_42 (by decide) ?_
        exact q_iret0 hC hW hr hlk0 (Or.inl ⟨36 + k_31, (by simp [idx, rng_nI, hk_31, ht_9]), by omega, (by unfold rj; congr 1; split <;> (try split) <;> omega)⟩) dX6_placeOf_47
    ·
      have hk_31 : rng coin 6 = none := rng_none.mpr (by omega)
      refine q_ieq (tgt := 45) hx hb dX6_placeOf_34 (by decide) (by first | omega | exact Nat.lt_of_le_of_lt (hw3 _) (by decide)) (fun c_34 => ?_) (fun c_34 => absurd c_34 (by decide))
      refine lv_bipush (v := -6) hx hb dX6_placeOf_45 (by decide) ?_
      exact q_iret0 hC hW hr hlk0 (Or.inr ⟨(by simp [idx, rng_nI, hk_31]), rfl⟩) dX6_placeOf_47
  ·
    refine lv_lookup (off := 47) (tgt := 48) hx hb dX6_placeOf_1 (by decide) (by decide) (by decide) ?_
    refine lv_iload_n hx hb dX6_placeOf_48 rfl (lv_at hl 1 rfl) ?_
    refine q_ic 0 hx hb dX6_placeOf_49 (by decide) ?_
    refine q_ic 5 hx hb dX6_placeOf_50 (by decide) ?_
    refine q_kI0 (q_rS (As := [.int (coin), .int (nI 0), .int (nI 5)]) (rest := []) hC hW mw_X6_in gw_537 (k_in l G n ad s.heap.size I L R _ _ _) ⟨rfl, rfl⟩ ⟨Nat.le_of_ble_eq_true rfl, Nat.le_of_ble_eq_true rfl⟩ ⟨(Nat.le_of_ble_eq_true rfl), (Nat.le_of_ble_eq_true rfl)⟩ hl.1 rfl rfl (Nat.le_of_ble_eq_true rfl) dX6_placeOf_51) hW (fun r_51 H locs hp hW => ?_)
    rw [show (nI 0).toInt = 0 by decide, (show (nI 5).toInt = 5 by decide)] at hp
    rcases hp with ⟨rfl, hx_51, hy_51⟩ | ⟨rfl, hx_51⟩
    ·
      obtain ⟨k_51, hk_51, rfl⟩ := rng_ex2 (N := 6) (x := coin) (by omega) (by omega) (by omega)
      refine q_ieq (tgt := 78) hx hb dX6_placeOf_54 (by decide) (by first | omega | exact Nat.lt_of_le_of_lt (hw3 _) (by decide)) (fun c_54 => absurd c_54 (by decide)) (fun c_54 => ?_)
      refine lv_iload_n hx hb dX6_placeOf_57 rfl (lv_at hl 2 rfl) ?_
      refine q_ic 0 hx hb dX6_placeOf_58 (by decide) ?_
      refine q_ic 5 hx hb dX6_placeOf_59 (by decide) ?_
      refine q_kI0 (q_rS (As := [.int (to), .int (nI 0), .int (nI 5)]) (rest := []) hC hW mw_X6_in gw_537 (k_in l G n ad H.size I L R _ _ _) ⟨rfl, rfl⟩ ⟨Nat.le_of_ble_eq_true rfl, Nat.le_of_ble_eq_true rfl⟩ ⟨(Nat.le_of_ble_eq_true rfl), (Nat.le_of_ble_eq_true rfl)⟩ hl.1 rfl rfl (Nat.le_of_ble_eq_true rfl) dX6_placeOf_60) hW (fun r_60 H locs hp hW => ?_)
      rw [show (nI 0).toInt = 0 by decide, (show (nI 5).toInt = 5 by decide)] at hp
      rcases hp with ⟨rfl, hx_60, hy_60⟩ | ⟨rfl, hx_60⟩
      ·
        obtain ⟨k_60, hk_60, rfl⟩ := rng_ex2 (N := 6) (x := to) (by omega) (by omega) (by omega)
        refine q_ieq (tgt := 78) hx hb dX6_placeOf_63 (by decide) (by first | omega | exact Nat.lt_of_le_of_lt (hw3 _) (by decide)) (fun c_63 => absurd c_63 (by decide)) (fun c_63 => ?_)
        refine q_bp 6 hx hb dX6_placeOf_66 (by decide) ?_
        refine q_bp 6 hx hb dX6_placeOf_68 (by decide) ?_
        refine lv_iload_n hx hb dX6_placeOf_70 rfl (lv_at hl 1 rfl) ?_
        refine q_imul hx hb dX6_placeOf_71 ?_
        refine q_iadd hx hb dX6_placeOf_72 ?_
        refine lv_iload_n hx hb dX6_placeOf_73 rfl (lv_at hl 2 rfl) ?_
        refine q_iadd hx hb dX6_placeOf_74 ?_
        refine lv_goto (tgt := 80) hx hb dX6_placeOf_75 (by decide) ?_
        exact q_iret0 hC hW hr hlk0 (Or.inl ⟨k_51 * 6 + k_60, (by simp [idx, rng_nI, hk_51, hk_60]), by omega, (by unfold rj; congr 1; split <;> (try split) <;> omega)⟩) dX6_placeOf_80
      ·
        have hk_60 : rng to 6 = none := rng_none.mpr (by omega)
        refine q_ieq (tgt := 78) hx hb dX6_placeOf_63 (by decide) (by first | omega | exact Nat.lt_of_le_of_lt (hw3 _) (by decide)) (fun c_63 => ?_) (fun c_63 => absurd c_63 (by decide))
        refine lv_bipush (v := -6) hx hb dX6_placeOf_78 (by decide) ?_
        exact q_iret0 hC hW hr hlk0 (Or.inr ⟨(by simp [idx, rng_nI, hk_51, hk_60]), rfl⟩) dX6_placeOf_80
    ·
      have hk_51 : rng coin 6 = none := rng_none.mpr (by omega)
      refine q_ieq (tgt := 78) hx hb dX6_placeOf_54 (by decide) (by first | omega | exact Nat.lt_of_le_of_lt (hw3 _) (by decide)) (fun c_54 => ?_) (fun c_54 => absurd c_54 (by decide))
      refine lv_bipush (v := -6) hx hb dX6_placeOf_78 (by decide) ?_
      exact q_iret0 hC hW hr hlk0 (Or.inr ⟨(by simp [idx, rng_nI, hk_51]), rfl⟩) dX6_placeOf_80
  ·
    refine lv_lookup (off := 80) (tgt := 81) hx hb dX6_placeOf_1 (by decide) (by decide) (by decide) ?_
    refine lv_iload_n hx hb dX6_placeOf_81 rfl (lv_at hl 1 rfl) ?_
    refine q_ic 0 hx hb dX6_placeOf_82 (by decide) ?_
    refine q_ic 3 hx hb dX6_placeOf_83 (by decide) ?_
    refine q_kI0 (q_rS (As := [.int (coin), .int (nI 0), .int (nI 3)]) (rest := []) hC hW mw_X6_in gw_537 (k_in l G n ad s.heap.size I L R _ _ _) ⟨rfl, rfl⟩ ⟨Nat.le_of_ble_eq_true rfl, Nat.le_of_ble_eq_true rfl⟩ ⟨(Nat.le_of_ble_eq_true rfl), (Nat.le_of_ble_eq_true rfl)⟩ hl.1 rfl rfl (Nat.le_of_ble_eq_true rfl) dX6_placeOf_84) hW (fun r_84 H locs hp hW => ?_)
    rw [show (nI 0).toInt = 0 by decide, (show (nI 3).toInt = 3 by decide)] at hp
    rcases hp with ⟨rfl, hx_84, hy_84⟩ | ⟨rfl, hx_84⟩
    ·
      obtain ⟨k_84, hk_84, rfl⟩ := rng_ex2 (N := 4) (x := coin) (by omega) (by omega) (by omega)
      refine q_ieq (tgt := 110) hx hb dX6_placeOf_87 (by decide) (by first | omega | exact Nat.lt_of_le_of_lt (hw3 _) (by decide)) (fun c_87 => absurd c_87 (by decide)) (fun c_87 => ?_)
      refine lv_iload_n hx hb dX6_placeOf_90 rfl (lv_at hl 2 rfl) ?_
      refine q_ic 0 hx hb dX6_placeOf_91 (by decide) ?_
      refine q_ic 3 hx hb dX6_placeOf_92 (by decide) ?_
      refine q_kI0 (q_rS (As := [.int (to), .int (nI 0), .int (nI 3)]) (rest := []) hC hW mw_X6_in gw_537 (k_in l G n ad H.size I L R _ _ _) ⟨rfl, rfl⟩ ⟨Nat.le_of_ble_eq_true rfl, Nat.le_of_ble_eq_true rfl⟩ ⟨(Nat.le_of_ble_eq_true rfl), (Nat.le_of_ble_eq_true rfl)⟩ hl.1 rfl rfl (Nat.le_of_ble_eq_true rfl) dX6_placeOf_93) hW (fun r_93 H locs hp hW => ?_)
      rw [show (nI 0).toInt = 0 by decide, (show (nI 3).toInt = 3 by decide)] at hp
      rcases hp with ⟨rfl, hx_93, hy_93⟩ | ⟨rfl, hx_93⟩
      ·
        obtain ⟨k_93, hk_93, rfl⟩ := rng_ex2 (N := 4) (x := to) (by omega) (by omega) (by omega)
        refine q_ieq (tgt := 110) hx hb dX6_placeOf_96 (by decide) (by first | omega | exact Nat.lt_of_le_of_lt (hw3 _) (by decide)) (fun c_96 => absurd c_96 (by decide)) (fun c_96 => ?_)
        refine q_bp 42 hx hb dX6_placeOf_99 (by decide) ?_
        refine q_ic 4 hx hb dX6_placeOf_101 (by decide) ?_
        refine lv_iload_n hx hb dX6_placeOf_102 rfl (lv_at hl 1 rfl) ?_
        refine q_imul hx hb dX6_placeOf_103 ?_
        refine q_iadd hx hb dX6_placeOf_104 ?_
        refine lv_iload_n hx hb dX6_placeOf_105 rfl (lv_at hl 2 rfl) ?_
        refine q_iadd hx hb dX6_placeOf_106 ?_
        refine lv_goto (tgt := 112) hx hb dX6_placeOf_107 (by decide) ?_
        exact q_iret0 hC hW hr hlk0 (Or.inl ⟨42 + k_84 * 4 + k_93, (by simp [idx, rng_nI, hk_84, hk_93]), by omega, (by unfold rj; congr 1; split <;> (try split) <;> omega)⟩) dX6_placeOf_112
      ·
        have hk_93 : rng to 4 = none := rng_none.mpr (by omega)
        refine q_ieq (tgt := 110) hx hb dX6_placeOf_96 (by decide) (by first | omega | exact Nat.lt_of_le_of_lt (hw3 _) (by decide)) (fun c_96 => ?_) (fun c_96 => absurd c_96 (by decide))
        refine lv_bipush (v := -6) hx hb dX6_placeOf_110 (by decide) ?_
        exact q_iret0 hC hW hr hlk0 (Or.inr ⟨(by simp [idx, rng_nI, hk_84, hk_93]), rfl⟩) dX6_placeOf_112
    ·
      have hk_84 : rng coin 4 = none := rng_none.mpr (by omega)
      refine q_ieq (tgt := 110) hx hb dX6_placeOf_87 (by decide) (by first | omega | exact Nat.lt_of_le_of_lt (hw3 _) (by decide)) (fun c_87 => ?_) (fun c_87 => absurd c_87 (by decide))
      refine lv_bipush (v := -6) hx hb dX6_placeOf_110 (by decide) ?_
      exact q_iret0 hC hW hr hlk0 (Or.inr ⟨(by simp [idx, rng_nI, hk_84]), rfl⟩) dX6_placeOf_112
theorem k_m1 {a : Nat} (h : a < 2 ^ 30) : (nI a - nI 1).toInt = (a : Int) - 1 := pk_sub_toInt h (by decide)
set_option maxRecDepth 100000 in
set_option maxHeartbeats 4000000 in
theorem k_isPlace (l : Launch) (G : Gx) (n : Nat) (ad : Nat → Nat) (sz : Nat) (I : Ic) (L : Lc) (R : Rc) (x : Int32) (w : Nat → Nat) (K : Nat) (ro : Nat → Nat) (hn : 83 ≤ n) (hlk : LkOK n R) (hN : NwI (I 72) w K ro) : Met l yX6_isPlace (Cond.code yX6_isPlace cX6_isPlace 2 (some .boolean) :: GW) ({ frames := 1, cells := 0, slots := 0, locals := 36 } : Room) (qPre G n ad sz I L R [.ref (ad 71), .int (x)]) (qI0 G (qA n ad sz) (n, ad, I, L, R) (fun z => (∃ j, j < K ∧ x = nI j ∧ z = nI 1) ∨ (rng x K = none ∧ z = nI 0))) 0 0 (qA n ad sz) := by
  refine q_met (by decide) (Nat.le_of_ble_eq_true rfl) ?_
  intro p_ e_ s m_ below meth c_ hC hr hlk0 hin hsz hW ls hl
  subst hsz
  have hC : CallFix p_ m_ c_ cX6_isPlace 2 s ([.ref (ad 71), .int (x)] : List Value).toArray GW "CoinRowsModel" := hC
  have hx := hC.1
  have hb := hC.2.1
  have hk6 : K ≤ 6 := hN.2.2.2.1
  have hw : Wok w := hN.2.2.2.2.1
  have hw3 : ∀ i, w i ≤ 3 := hw.1
  have hr4 : ∀ j, ro j < 4 := hN.2.2.2.2.2
  have hl : lv_has ls 2 [(0, .ref (ad 71)), (1, .int (x))] := hl
  refine lv_iload_n hx hb dX6_isPlace_0 rfl (lv_at hl 1 rfl) ?_
  refine q_ic 0 hx hb dX6_isPlace_1 (by decide) ?_
  refine lv_aload_n hx hb dX6_isPlace_2 rfl (lv_at hl 0 rfl) ?_
  refine g_6_0 (x := 71) (y := 72) hC hW (by omega) kd_71 gw_483 (hlk 71 0 72 (by omega) rfl) dX6_isPlace_3 ?_
  refine q_bp 58 hx hb dX6_isPlace_6 (by decide) ?_
  refine q_iald (x := 72) (i := 58) hC hW (by omega) kd_72 (by omega) dX6_isPlace_8 ?_
  refine q_top (v2 := .int (nI (K))) (congrArg _ hN.2.1) ?_
  refine q_ic 1 hx hb dX6_isPlace_9 (by decide) ?_
  refine lv_isub hx hb dX6_isPlace_10 ?_
  refine q_kI0 (q_rS (As := [.int (x), .int (nI 0), .int (nI K - nI 1)]) (rest := []) hC hW mw_X6_in gw_537 (k_in l G n ad s.heap.size I L R _ _ _) ⟨rfl, rfl⟩ ⟨Nat.le_of_ble_eq_true rfl, Nat.le_of_ble_eq_true rfl⟩ ⟨(Nat.le_of_ble_eq_true rfl), (Nat.le_of_ble_eq_true rfl)⟩ hl.1 rfl rfl (Nat.le_of_ble_eq_true rfl) dX6_isPlace_11) hW (fun r_11 H locs hp hW => ?_)
  rw [show (nI 0).toInt = 0 by decide, k_m1 (by omega)] at hp
  rcases hp with ⟨rfl, hx_11, hy_11⟩ | ⟨rfl, hx_11⟩
  ·
    obtain ⟨kf, hf1, hf2⟩ := rng_ex (N := K) (x := x) (by omega) (by omega) (by omega)
    exact q_zret0 hC hW hr hlk0 rfl (Or.inl ⟨kf, hf1, hf2, rfl⟩) dX6_isPlace_14
  ·
    exact q_zret0 hC hW hr hlk0 rfl (Or.inr ⟨rng_none.mpr (by omega), rfl⟩) dX6_isPlace_14
