theorem nT0 : (nI 0).toInt = 0 := by decide
theorem nT1 : (nI 1).toInt = 1 := by decide
theorem nT2 : (nI 2).toInt = 2 := by decide
theorem nT3 : (nI 3).toInt = 3 := by decide
theorem nT4 : (nI 4).toInt = 4 := by decide
theorem nT5 : (nI 5).toInt = 5 := by decide
theorem nT6 : (nI 6).toInt = 6 := by decide
theorem nT7 : (nI 7).toInt = 7 := by decide
theorem nT8 : (nI 8).toInt = 8 := by decide
theorem nT9 : (nI 9).toInt = 9 := by decide
theorem nT10 : (nI 10).toInt = 10 := by decide
theorem nT33 : (nI 33).toInt = 33 := by decide
theorem nT36 : (nI 36).toInt = 36 := by decide
theorem nT42 : (nI 42).toInt = 42 := by decide
theorem nT58 : (nI 58).toInt = 58 := by decide
theorem nT80 : (nI 80).toInt = 80 := by decide
theorem nT126 : (nI 126).toInt = 126 := by decide
theorem nT255 : (nI 255).toInt = 255 := by decide
theorem i_m1 : (-1 : Int32).toInt = -1 := by decide
theorem i_m2 : (-2 : Int32).toInt = -2 := by decide
def rng (x : Int32) (N : Nat) : Option Nat := if 0 ≤ x.toInt ∧ x.toInt < (N : Int) then some x.toInt.toNat else none
theorem rng_nI {k N : Nat} (h : k < N) (hN : N ≤ 1000) : rng (nI k) N = some k := by
  unfold rng
  rw [nI_toInt (show k < 2 ^ 31 by omega), if_pos (by omega)]
  simp
theorem rng_ge {k N : Nat} (h : N ≤ k) (hk : k < 2 ^ 31) : rng (nI k) N = none := by
  unfold rng
  rw [nI_toInt hk, if_neg (by omega)]
theorem rng_some {x : Int32} {k N : Nat} (h : rng x N = some k) (hN : N ≤ 1000) : k < N ∧ x = nI k := by
  unfold rng at h
  split at h
  · rename_i h1
    cases h
    refine ⟨by omega, ?_⟩
    apply Int32.toInt_inj.mp
    rw [nI_toInt (by omega)]
    omega
  · cases h
theorem rng_none {x : Int32} {N : Nat} : rng x N = none ↔ (x.toInt < 0 ∨ (N : Int) ≤ x.toInt) := by
  unfold rng
  split
  · rename_i h; simp; omega
  · rename_i h; simp; omega
theorem rng_ex {x : Int32} {N : Nat} (hN : N ≤ 1000) (h0 : 0 ≤ x.toInt) (h1 : x.toInt < (N : Int)) : ∃ k, k < N ∧ x = nI k := by
  have h : rng x N = some x.toInt.toNat := by unfold rng; rw [if_pos ⟨h0, h1⟩]
  exact ⟨_, rng_some h hN⟩
def idx (q : Nat) (coin to : Int32) : Option Nat :=
  if q = 0 then (match rng coin 6, rng to 1 with | some c, some _ => some (36 + c) | _, _ => none)
  else if q = 1 then (match rng coin 6, rng to 6 with | some c, some t => some (c * 6 + t) | _, _ => none)
  else (match rng coin 4, rng to 4 with | some c, some t => some (42 + c * 4 + t) | _, _ => none)
def barred (f t : Nat) : Prop := 4 ≤ f ∧ 4 ≤ t ∧ t ≤ f
set_option maxRecDepth 100000 in
set_option maxHeartbeats 4000000 in
theorem k_isKind (l : Launch) (G : Gx) (n : Nat) (ad : Nat → Nat) (sz : Nat) (I : Ic) (L : Lc) (R : Rc) (x : Int32) : Met l yX5_isKind (Cond.code yX5_isKind cX5_isKind 1 (some .boolean) :: GW) ({ frames := 0, cells := 0, slots := 0, locals := 0 } : Room) (qPre G n ad sz I L R [.int (x)]) (qI0 G (qA n ad sz) (n, ad, I, L, R) (fun r => (∃ k, k < 3 ∧ x = nI k ∧ r = nI 1) ∨ (rng x 3 = none ∧ r = nI 0))) 0 0 (qA n ad sz) := by
  refine q_met (by decide) (Nat.le_of_ble_eq_true rfl) ?_
  intro p_ e_ s m_ below meth c_ hC hr hlk0 hin hsz hW ls hl
  subst hsz
  have hC : CallFix p_ m_ c_ cX5_isKind 1 s ([.int (x)] : List Value).toArray GW "CoinRows" := hC
  have hx := hC.1
  have hb := hC.2.1
  have hl : lv_has ls 1 [(0, .int (x))] := hl
  refine lv_iload_n hx hb dX5_isKind_0 rfl (lv_at hl 0 rfl) ?_
  refine lv_if_eq (tgt := 14) hx hb dX5_isKind_1 (by decide) (fun c_1 => ?_) (fun c_1 => ?_)
  ·
    refine q_ic 1 hx hb dX5_isKind_14 (by decide) ?_
    refine lv_goto (tgt := 19) hx hb dX5_isKind_15 (by decide) ?_
    have hfin : ∃ k, k < 3 ∧ x = nI k := rng_ex (by decide) (by simp only [Int32.lt_iff_toInt_lt, Int32.le_iff_toInt_le, ← Int32.toInt_inj, nT0, nT1, nT2, nT3, nT4, nT5, nT6, nT7, nT8, nT9, nT10, nT33, nT36, nT42, nT58, nT80, nT126, nT255, i_m1, i_m2, Int32.toInt_zero, Int32.toInt_one] at c_1; omega) (by simp only [Int32.lt_iff_toInt_lt, Int32.le_iff_toInt_le, ← Int32.toInt_inj, nT0, nT1, nT2, nT3, nT4, nT5, nT6, nT7, nT8, nT9, nT10, nT33, nT36, nT42, nT58, nT80, nT126, nT255, i_m1, i_m2, Int32.toInt_zero, Int32.toInt_one] at c_1; omega)
    obtain ⟨kf, hf1, hf2⟩ := hfin
    exact q_zret0 hC hW hr hlk0 rfl (Or.inl ⟨kf, hf1, hf2, rfl⟩) dX5_isKind_19
  ·
    refine lv_iload_n hx hb dX5_isKind_4 rfl (lv_at hl 0 rfl) ?_
    refine q_ic 1 hx hb dX5_isKind_5 (by decide) ?_
    refine lv_icmp_eq (tgt := 14) hx hb dX5_isKind_6 (by decide) (fun c_6 => ?_) (fun c_6 => ?_)
    ·
      refine q_ic 1 hx hb dX5_isKind_14 (by decide) ?_
      refine lv_goto (tgt := 19) hx hb dX5_isKind_15 (by decide) ?_
      have hfin : ∃ k, k < 3 ∧ x = nI k := rng_ex (by decide) (by simp only [Int32.lt_iff_toInt_lt, Int32.le_iff_toInt_le, ← Int32.toInt_inj, nT0, nT1, nT2, nT3, nT4, nT5, nT6, nT7, nT8, nT9, nT10, nT33, nT36, nT42, nT58, nT80, nT126, nT255, i_m1, i_m2, Int32.toInt_zero, Int32.toInt_one] at c_1 c_6; omega) (by simp only [Int32.lt_iff_toInt_lt, Int32.le_iff_toInt_le, ← Int32.toInt_inj, nT0, nT1, nT2, nT3, nT4, nT5, nT6, nT7, nT8, nT9, nT10, nT33, nT36, nT42, nT58, nT80, nT126, nT255, i_m1, i_m2, Int32.toInt_zero, Int32.toInt_one] at c_1 c_6; omega)
      obtain ⟨kf, hf1, hf2⟩ := hfin
      exact q_zret0 hC hW hr hlk0 rfl (Or.inl ⟨kf, hf1, hf2, rfl⟩) dX5_isKind_19
    ·
      refine lv_iload_n hx hb dX5_isKind_9 rfl (lv_at hl 0 rfl) ?_
      refine q_ic 2 hx hb dX5_isKind_10 (by decide) ?_
      refine lv_icmp_ne (tgt := 18) hx hb dX5_isKind_11 (by decide) (fun c_11 => ?_) (fun c_11 => ?_)
      ·
        refine q_ic 0 hx hb dX5_isKind_18 (by decide) ?_
        have hfin : rng x 3 = none := rng_none.mpr (by simp only [Int32.lt_iff_toInt_lt, Int32.le_iff_toInt_le, ← Int32.toInt_inj, nT0, nT1, nT2, nT3, nT4, nT5, nT6, nT7, nT8, nT9, nT10, nT33, nT36, nT42, nT58, nT80, nT126, nT255, i_m1, i_m2, Int32.toInt_zero, Int32.toInt_one] at c_1 c_6 c_11; omega)
        exact q_zret0 hC hW hr hlk0 rfl (Or.inr ⟨hfin, rfl⟩) dX5_isKind_19
      ·
        refine q_ic 1 hx hb dX5_isKind_14 (by decide) ?_
        refine lv_goto (tgt := 19) hx hb dX5_isKind_15 (by decide) ?_
        have hfin : ∃ k, k < 3 ∧ x = nI k := rng_ex (by decide) (by simp only [Int32.lt_iff_toInt_lt, Int32.le_iff_toInt_le, ← Int32.toInt_inj, nT0, nT1, nT2, nT3, nT4, nT5, nT6, nT7, nT8, nT9, nT10, nT33, nT36, nT42, nT58, nT80, nT126, nT255, i_m1, i_m2, Int32.toInt_zero, Int32.toInt_one] at c_1 c_6 c_11; omega) (by simp only [Int32.lt_iff_toInt_lt, Int32.le_iff_toInt_le, ← Int32.toInt_inj, nT0, nT1, nT2, nT3, nT4, nT5, nT6, nT7, nT8, nT9, nT10, nT33, nT36, nT42, nT58, nT80, nT126, nT255, i_m1, i_m2, Int32.toInt_zero, Int32.toInt_one] at c_1 c_6 c_11; omega)
        obtain ⟨kf, hf1, hf2⟩ := hfin
        exact q_zret0 hC hW hr hlk0 rfl (Or.inl ⟨kf, hf1, hf2, rfl⟩) dX5_isKind_19
set_option maxRecDepth 100000 in
set_option maxHeartbeats 4000000 in
theorem k_isPart (l : Launch) (G : Gx) (n : Nat) (ad : Nat → Nat) (sz : Nat) (I : Ic) (L : Lc) (R : Rc) (x : Int32) : Met l yX5_isPart (Cond.code yX5_isPart cX5_isPart 1 (some .boolean) :: GW) ({ frames := 0, cells := 0, slots := 0, locals := 0 } : Room) (qPre G n ad sz I L R [.int (x)]) (qI0 G (qA n ad sz) (n, ad, I, L, R) (fun r => (∃ k, k < 2 ∧ x = nI k ∧ r = nI 1) ∨ (rng x 2 = none ∧ r = nI 0))) 0 0 (qA n ad sz) := by
  refine q_met (by decide) (Nat.le_of_ble_eq_true rfl) ?_
  intro p_ e_ s m_ below meth c_ hC hr hlk0 hin hsz hW ls hl
  subst hsz
  have hC : CallFix p_ m_ c_ cX5_isPart 1 s ([.int (x)] : List Value).toArray GW "CoinRows" := hC
  have hx := hC.1
  have hb := hC.2.1
  have hl : lv_has ls 1 [(0, .int (x))] := hl
  refine lv_iload_n hx hb dX5_isPart_0 rfl (lv_at hl 0 rfl) ?_
  refine lv_if_eq (tgt := 9) hx hb dX5_isPart_1 (by decide) (fun c_1 => ?_) (fun c_1 => ?_)
  ·
    refine q_ic 1 hx hb dX5_isPart_9 (by decide) ?_
    refine lv_goto (tgt := 14) hx hb dX5_isPart_10 (by decide) ?_
    have hfin : ∃ k, k < 2 ∧ x = nI k := rng_ex (by decide) (by simp only [Int32.lt_iff_toInt_lt, Int32.le_iff_toInt_le, ← Int32.toInt_inj, nT0, nT1, nT2, nT3, nT4, nT5, nT6, nT7, nT8, nT9, nT10, nT33, nT36, nT42, nT58, nT80, nT126, nT255, i_m1, i_m2, Int32.toInt_zero, Int32.toInt_one] at c_1; omega) (by simp only [Int32.lt_iff_toInt_lt, Int32.le_iff_toInt_le, ← Int32.toInt_inj, nT0, nT1, nT2, nT3, nT4, nT5, nT6, nT7, nT8, nT9, nT10, nT33, nT36, nT42, nT58, nT80, nT126, nT255, i_m1, i_m2, Int32.toInt_zero, Int32.toInt_one] at c_1; omega)
    obtain ⟨kf, hf1, hf2⟩ := hfin
    exact q_zret0 hC hW hr hlk0 rfl (Or.inl ⟨kf, hf1, hf2, rfl⟩) dX5_isPart_14
  ·
    refine lv_iload_n hx hb dX5_isPart_4 rfl (lv_at hl 0 rfl) ?_
    refine q_ic 1 hx hb dX5_isPart_5 (by decide) ?_
    refine lv_icmp_ne (tgt := 13) hx hb dX5_isPart_6 (by decide) (fun c_6 => ?_) (fun c_6 => ?_)
    ·
      refine q_ic 0 hx hb dX5_isPart_13 (by decide) ?_
      have hfin : rng x 2 = none := rng_none.mpr (by simp only [Int32.lt_iff_toInt_lt, Int32.le_iff_toInt_le, ← Int32.toInt_inj, nT0, nT1, nT2, nT3, nT4, nT5, nT6, nT7, nT8, nT9, nT10, nT33, nT36, nT42, nT58, nT80, nT126, nT255, i_m1, i_m2, Int32.toInt_zero, Int32.toInt_one] at c_1 c_6; omega)
      exact q_zret0 hC hW hr hlk0 rfl (Or.inr ⟨hfin, rfl⟩) dX5_isPart_14
    ·
      refine q_ic 1 hx hb dX5_isPart_9 (by decide) ?_
      refine lv_goto (tgt := 14) hx hb dX5_isPart_10 (by decide) ?_
      have hfin : ∃ k, k < 2 ∧ x = nI k := rng_ex (by decide) (by simp only [Int32.lt_iff_toInt_lt, Int32.le_iff_toInt_le, ← Int32.toInt_inj, nT0, nT1, nT2, nT3, nT4, nT5, nT6, nT7, nT8, nT9, nT10, nT33, nT36, nT42, nT58, nT80, nT126, nT255, i_m1, i_m2, Int32.toInt_zero, Int32.toInt_one] at c_1 c_6; omega) (by simp only [Int32.lt_iff_toInt_lt, Int32.le_iff_toInt_le, ← Int32.toInt_inj, nT0, nT1, nT2, nT3, nT4, nT5, nT6, nT7, nT8, nT9, nT10, nT33, nT36, nT42, nT58, nT80, nT126, nT255, i_m1, i_m2, Int32.toInt_zero, Int32.toInt_one] at c_1 c_6; omega)
      obtain ⟨kf, hf1, hf2⟩ := hfin
      exact q_zret0 hC hW hr hlk0 rfl (Or.inl ⟨kf, hf1, hf2, rfl⟩) dX5_isPart_14
set_option maxRecDepth 100000 in
set_option maxHeartbeats 4000000 in
theorem k_isLoud (l : Launch) (G : Gx) (n : Nat) (ad : Nat → Nat) (sz : Nat) (I : Ic) (L : Lc) (R : Rc) (x : Int32) : Met l yX5_isLoud (Cond.code yX5_isLoud cX5_isLoud 1 (some .boolean) :: GW) ({ frames := 0, cells := 0, slots := 0, locals := 0 } : Room) (qPre G n ad sz I L R [.int (x)]) (qI0 G (qA n ad sz) (n, ad, I, L, R) (fun r => (∃ k, k < 4 ∧ x = nI k ∧ r = nI 1) ∨ (rng x 4 = none ∧ r = nI 0))) 0 0 (qA n ad sz) := by
  refine q_met (by decide) (Nat.le_of_ble_eq_true rfl) ?_
  intro p_ e_ s m_ below meth c_ hC hr hlk0 hin hsz hW ls hl
  subst hsz
  have hC : CallFix p_ m_ c_ cX5_isLoud 1 s ([.int (x)] : List Value).toArray GW "CoinRows" := hC
  have hx := hC.1
  have hb := hC.2.1
  have hl : lv_has ls 1 [(0, .int (x))] := hl
  refine lv_iload_n hx hb dX5_isLoud_0 rfl (lv_at hl 0 rfl) ?_
  refine lv_if_lt (tgt := 13) hx hb dX5_isLoud_1 (by decide) (fun c_1 => ?_) (fun c_1 => ?_)
  ·
    refine q_ic 0 hx hb dX5_isLoud_13 (by decide) ?_
    have hfin : rng x 4 = none := rng_none.mpr (by simp only [Int32.lt_iff_toInt_lt, Int32.le_iff_toInt_le, ← Int32.toInt_inj, nT0, nT1, nT2, nT3, nT4, nT5, nT6, nT7, nT8, nT9, nT10, nT33, nT36, nT42, nT58, nT80, nT126, nT255, i_m1, i_m2, Int32.toInt_zero, Int32.toInt_one] at c_1; omega)
    exact q_zret0 hC hW hr hlk0 rfl (Or.inr ⟨hfin, rfl⟩) dX5_isLoud_14
  ·
    refine lv_iload_n hx hb dX5_isLoud_4 rfl (lv_at hl 0 rfl) ?_
    refine q_ic 4 hx hb dX5_isLoud_5 (by decide) ?_
    refine lv_icmp_ge (tgt := 13) hx hb dX5_isLoud_6 (by decide) (fun c_6 => ?_) (fun c_6 => ?_)
    ·
      refine q_ic 0 hx hb dX5_isLoud_13 (by decide) ?_
      have hfin : rng x 4 = none := rng_none.mpr (by simp only [Int32.lt_iff_toInt_lt, Int32.le_iff_toInt_le, ← Int32.toInt_inj, nT0, nT1, nT2, nT3, nT4, nT5, nT6, nT7, nT8, nT9, nT10, nT33, nT36, nT42, nT58, nT80, nT126, nT255, i_m1, i_m2, Int32.toInt_zero, Int32.toInt_one] at c_1 c_6; omega)
      exact q_zret0 hC hW hr hlk0 rfl (Or.inr ⟨hfin, rfl⟩) dX5_isLoud_14
    ·
      refine q_ic 1 hx hb dX5_isLoud_9 (by decide) ?_
      refine lv_goto (tgt := 14) hx hb dX5_isLoud_10 (by decide) ?_
      have hfin : ∃ k, k < 4 ∧ x = nI k := rng_ex (by decide) (by simp only [Int32.lt_iff_toInt_lt, Int32.le_iff_toInt_le, ← Int32.toInt_inj, nT0, nT1, nT2, nT3, nT4, nT5, nT6, nT7, nT8, nT9, nT10, nT33, nT36, nT42, nT58, nT80, nT126, nT255, i_m1, i_m2, Int32.toInt_zero, Int32.toInt_one] at c_1 c_6; omega) (by simp only [Int32.lt_iff_toInt_lt, Int32.le_iff_toInt_le, ← Int32.toInt_inj, nT0, nT1, nT2, nT3, nT4, nT5, nT6, nT7, nT8, nT9, nT10, nT33, nT36, nT42, nT58, nT80, nT126, nT255, i_m1, i_m2, Int32.toInt_zero, Int32.toInt_one] at c_1 c_6; omega)
      obtain ⟨kf, hf1, hf2⟩ := hfin
      exact q_zret0 hC hW hr hlk0 rfl (Or.inl ⟨kf, hf1, hf2, rfl⟩) dX5_isLoud_14
set_option maxRecDepth 100000 in
set_option maxHeartbeats 4000000 in
theorem k_isCoin (l : Launch) (G : Gx) (n : Nat) (ad : Nat → Nat) (sz : Nat) (I : Ic) (L : Lc) (R : Rc) (x : Int32) : Met l yX5_isCoin (Cond.code yX5_isCoin cX5_isCoin 1 (some .boolean) :: GW) ({ frames := 0, cells := 0, slots := 0, locals := 0 } : Room) (qPre G n ad sz I L R [.int (x)]) (qI0 G (qA n ad sz) (n, ad, I, L, R) (fun r => (∃ k, k < 6 ∧ x = nI k ∧ r = nI 1) ∨ (rng x 6 = none ∧ r = nI 0))) 0 0 (qA n ad sz) := by
  refine q_met (by decide) (Nat.le_of_ble_eq_true rfl) ?_
  intro p_ e_ s m_ below meth c_ hC hr hlk0 hin hsz hW ls hl
  subst hsz
  have hC : CallFix p_ m_ c_ cX5_isCoin 1 s ([.int (x)] : List Value).toArray GW "CoinRows" := hC
  have hx := hC.1
  have hb := hC.2.1
  have hl : lv_has ls 1 [(0, .int (x))] := hl
  refine lv_iload_n hx hb dX5_isCoin_0 rfl (lv_at hl 0 rfl) ?_
  refine lv_if_lt (tgt := 14) hx hb dX5_isCoin_1 (by decide) (fun c_1 => ?_) (fun c_1 => ?_)
  ·
    refine q_ic 0 hx hb dX5_isCoin_14 (by decide) ?_
    have hfin : rng x 6 = none := rng_none.mpr (by simp only [Int32.lt_iff_toInt_lt, Int32.le_iff_toInt_le, ← Int32.toInt_inj, nT0, nT1, nT2, nT3, nT4, nT5, nT6, nT7, nT8, nT9, nT10, nT33, nT36, nT42, nT58, nT80, nT126, nT255, i_m1, i_m2, Int32.toInt_zero, Int32.toInt_one] at c_1; omega)
    exact q_zret0 hC hW hr hlk0 rfl (Or.inr ⟨hfin, rfl⟩) dX5_isCoin_15
  ·
    refine lv_iload_n hx hb dX5_isCoin_4 rfl (lv_at hl 0 rfl) ?_
    refine q_bp 6 hx hb dX5_isCoin_5 (by decide) ?_
    refine lv_icmp_ge (tgt := 14) hx hb dX5_isCoin_7 (by decide) (fun c_7 => ?_) (fun c_7 => ?_)
    ·
      refine q_ic 0 hx hb dX5_isCoin_14 (by decide) ?_
      have hfin : rng x 6 = none := rng_none.mpr (by simp only [Int32.lt_iff_toInt_lt, Int32.le_iff_toInt_le, ← Int32.toInt_inj, nT0, nT1, nT2, nT3, nT4, nT5, nT6, nT7, nT8, nT9, nT10, nT33, nT36, nT42, nT58, nT80, nT126, nT255, i_m1, i_m2, Int32.toInt_zero, Int32.toInt_one] at c_1 c_7; omega)
      exact q_zret0 hC hW hr hlk0 rfl (Or.inr ⟨hfin, rfl⟩) dX5_isCoin_15
    ·
      refine q_ic 1 hx hb dX5_isCoin_10 (by decide) ?_
      refine lv_goto (tgt := 15) hx hb dX5_isCoin_11 (by decide) ?_
      have hfin : ∃ k, k < 6 ∧ x = nI k := rng_ex (by decide) (by simp only [Int32.lt_iff_toInt_lt, Int32.le_iff_toInt_le, ← Int32.toInt_inj, nT0, nT1, nT2, nT3, nT4, nT5, nT6, nT7, nT8, nT9, nT10, nT33, nT36, nT42, nT58, nT80, nT126, nT255, i_m1, i_m2, Int32.toInt_zero, Int32.toInt_one] at c_1 c_7; omega) (by simp only [Int32.lt_iff_toInt_lt, Int32.le_iff_toInt_le, ← Int32.toInt_inj, nT0, nT1, nT2, nT3, nT4, nT5, nT6, nT7, nT8, nT9, nT10, nT33, nT36, nT42, nT58, nT80, nT126, nT255, i_m1, i_m2, Int32.toInt_zero, Int32.toInt_one] at c_1 c_7; omega)
      obtain ⟨kf, hf1, hf2⟩ := hfin
      exact q_zret0 hC hW hr hlk0 rfl (Or.inl ⟨kf, hf1, hf2, rfl⟩) dX5_isCoin_15
set_option maxRecDepth 100000 in
set_option maxHeartbeats 4000000 in
theorem k_isBarred (l : Launch) (G : Gx) (n : Nat) (ad : Nat → Nat) (sz : Nat) (I : Ic) (L : Lc) (R : Rc) (f t : Nat) (hf : f < 1000) (ht : t < 1000) : Met l yX5_isBarred (Cond.code yX5_isBarred cX5_isBarred 2 (some .boolean) :: GW) ({ frames := 0, cells := 0, slots := 0, locals := 0 } : Room) (qPre G n ad sz I L R [.int (nI (f)), .int (nI (t))]) (qI0 G (qA n ad sz) (n, ad, I, L, R) (fun r => (barred f t ∧ r = nI 1) ∨ (¬ barred f t ∧ r = nI 0))) 0 0 (qA n ad sz) := by
  refine q_met (by decide) (Nat.le_of_ble_eq_true rfl) ?_
  intro p_ e_ s m_ below meth c_ hC hr hlk0 hin hsz hW ls hl
  subst hsz
  have hC : CallFix p_ m_ c_ cX5_isBarred 2 s ([.int (nI (f)), .int (nI (t))] : List Value).toArray GW "CoinRows" := hC
  have hx := hC.1
  have hb := hC.2.1
  have hl : lv_has ls 2 [(0, .int (nI (f))), (1, .int (nI (t)))] := hl
  refine lv_iload_n hx hb dX5_isBarred_0 rfl (lv_at hl 0 rfl) ?_
  refine q_ic 4 hx hb dX5_isBarred_1 (by decide) ?_
  refine q_clt (tgt := 19) hx hb dX5_isBarred_2 (by decide) (by first | omega | exact Nat.lt_of_le_of_lt (hw3 _) (by decide)) (by first | omega | exact Nat.lt_of_le_of_lt (hw3 _) (by decide)) (fun c_2 => ?_) (fun c_2 => ?_)
  ·
    refine q_ic 0 hx hb dX5_isBarred_19 (by decide) ?_
    exact q_zret0 hC hW hr hlk0 rfl (Or.inr ⟨fun h => by have := h.1; have := h.2.1; have := h.2.2; omega, rfl⟩) dX5_isBarred_20
  ·
    refine lv_iload_n hx hb dX5_isBarred_5 rfl (lv_at hl 1 rfl) ?_
    refine q_ic 4 hx hb dX5_isBarred_6 (by decide) ?_
    refine q_clt (tgt := 19) hx hb dX5_isBarred_7 (by decide) (by first | omega | exact Nat.lt_of_le_of_lt (hw3 _) (by decide)) (by first | omega | exact Nat.lt_of_le_of_lt (hw3 _) (by decide)) (fun c_7 => ?_) (fun c_7 => ?_)
    ·
      refine q_ic 0 hx hb dX5_isBarred_19 (by decide) ?_
      exact q_zret0 hC hW hr hlk0 rfl (Or.inr ⟨fun h => by have := h.1; have := h.2.1; have := h.2.2; omega, rfl⟩) dX5_isBarred_20
    ·
      refine lv_iload_n hx hb dX5_isBarred_10 rfl (lv_at hl 0 rfl) ?_
      refine lv_iload_n hx hb dX5_isBarred_11 rfl (lv_at hl 1 rfl) ?_
      refine q_clt (tgt := 19) hx hb dX5_isBarred_12 (by decide) (by first | omega | exact Nat.lt_of_le_of_lt (hw3 _) (by decide)) (by first | omega | exact Nat.lt_of_le_of_lt (hw3 _) (by decide)) (fun c_12 => ?_) (fun c_12 => ?_)
      ·
        refine q_ic 0 hx hb dX5_isBarred_19 (by decide) ?_
        exact q_zret0 hC hW hr hlk0 rfl (Or.inr ⟨fun h => by have := h.1; have := h.2.1; have := h.2.2; omega, rfl⟩) dX5_isBarred_20
      ·
        refine q_ic 1 hx hb dX5_isBarred_15 (by decide) ?_
        refine lv_goto (tgt := 20) hx hb dX5_isBarred_16 (by decide) ?_
        exact q_zret0 hC hW hr hlk0 rfl (Or.inl ⟨⟨by omega, by omega, by omega⟩, rfl⟩) dX5_isBarred_20
set_option maxRecDepth 100000 in
set_option maxHeartbeats 4000000 in
theorem k_indexOf (l : Launch) (G : Gx) (n : Nat) (ad : Nat → Nat) (sz : Nat) (I : Ic) (L : Lc) (R : Rc) (q : Nat) (hq : q < 3) (coin to : Int32) : Met l yX5_indexOf (Cond.code yX5_indexOf cX5_indexOf 3 (some .int) :: GW) ({ frames := 1, cells := 0, slots := 0, locals := 36 } : Room) (qPre G n ad sz I L R [.int (nI (q)), .int (coin), .int (to)]) (qI0 G (qA n ad sz) (n, ad, I, L, R) (fun r => (∃ i, idx q coin to = some i ∧ i < 58 ∧ r = nI i) ∨ (idx q coin to = none ∧ r = -1))) 0 0 (qA n ad sz) := by
  refine q_met (by decide) (Nat.le_of_ble_eq_true rfl) ?_
  intro p_ e_ s m_ below meth c_ hC hr hlk0 hin hsz hW ls hl
  subst hsz
  have hC : CallFix p_ m_ c_ cX5_indexOf 3 s ([.int (nI (q)), .int (coin), .int (to)] : List Value).toArray GW "CoinRows" := hC
  have hx := hC.1
  have hb := hC.2.1
  have hl : lv_has ls 3 [(0, .int (nI (q))), (1, .int (coin)), (2, .int (to))] := hl
  refine lv_iload_n hx hb dX5_indexOf_0 rfl (lv_at hl 0 rfl) ?_
  refine q_ine (tgt := 24) hx hb dX5_indexOf_1 (by decide) (by first | omega | exact Nat.lt_of_le_of_lt (hw3 _) (by decide)) (fun c_1 => ?_) (fun c_1 => ?_)
  ·
    refine lv_iload_n hx hb dX5_indexOf_24 rfl (lv_at hl 0 rfl) ?_
    refine q_ic 1 hx hb dX5_indexOf_25 (by decide) ?_
    refine q_cne (tgt := 54) hx hb dX5_indexOf_26 (by decide) (by first | omega | exact Nat.lt_of_le_of_lt (hw3 _) (by decide)) (by first | omega | exact Nat.lt_of_le_of_lt (hw3 _) (by decide)) (fun c_26 => ?_) (fun c_26 => ?_)
    ·
      refine lv_iload_n hx hb dX5_indexOf_54 rfl (lv_at hl 1 rfl) ?_
      refine q_kI0 (q_rS (As := [.int (coin)]) (rest := []) hC hW mw_X5_isLoud gw_169 (k_isLoud l G n ad s.heap.size I L R _) ⟨rfl, rfl⟩ ⟨Nat.le_of_ble_eq_true rfl, Nat.le_of_ble_eq_true rfl⟩ ⟨(Nat.le_of_ble_eq_true rfl), (Nat.le_of_ble_eq_true rfl)⟩ hl.1 rfl rfl (Nat.le_of_ble_eq_true rfl) dX5_indexOf_55) hW (fun r_55 H locs hp hW => ?_)
      rcases hp with ⟨k_55, hk_55, rfl, rfl⟩ | ⟨hk_55, rfl⟩
      ·
        refine q_ieq (tgt := 81) hx hb dX5_indexOf_58 (by decide) (by first | omega | exact Nat.lt_of_le_of_lt (hw3 _) (by decide)) (fun c_58 => absurd c_58 (by decide)) (fun c_58 => ?_)
        refine lv_iload_n hx hb dX5_indexOf_61 rfl (lv_at hl 2 rfl) ?_
        refine lv_if_lt (tgt := 81) hx hb dX5_indexOf_62 (by decide) (fun c_62 => ?_) (fun c_62 => ?_)
        ·
          have ht_9 : rng to 4 = none := rng_none.mpr (by simp only [Int32.lt_iff_toInt_lt, Int32.le_iff_toInt_le, ← Int32.toInt_inj, nT0, nT1, nT2, nT3, nT4, nT5, nT6, nT7, nT8, nT9, nT10, nT33, nT36, nT42, nT58, nT80, nT126, nT255, i_m1, i_m2, Int32.toInt_zero, Int32.toInt_one] at c_62; omega)
          refine lv_iconst (v := -1) hx hb dX5_indexOf_81 (by decide) ?_
          exact q_iret0 hC hW hr hlk0 (Or.inr ⟨(by simp [idx, rng_nI, hk_55, ht_9, c_1, c_26, c_58]), rfl⟩) dX5_indexOf_82
        ·
          refine lv_iload_n hx hb dX5_indexOf_65 rfl (lv_at hl 2 rfl) ?_
          refine q_ic 4 hx hb dX5_indexOf_66 (by decide) ?_
          refine lv_icmp_ge (tgt := 81) hx hb dX5_indexOf_67 (by decide) (fun c_67 => ?_) (fun c_67 => ?_)
          ·
            have ht_9 : rng to 4 = none := rng_none.mpr (by simp only [Int32.lt_iff_toInt_lt, Int32.le_iff_toInt_le, ← Int32.toInt_inj, nT0, nT1, nT2, nT3, nT4, nT5, nT6, nT7, nT8, nT9, nT10, nT33, nT36, nT42, nT58, nT80, nT126, nT255, i_m1, i_m2, Int32.toInt_zero, Int32.toInt_one] at c_62 c_67; omega)
            refine lv_iconst (v := -1) hx hb dX5_indexOf_81 (by decide) ?_
            exact q_iret0 hC hW hr hlk0 (Or.inr ⟨(by simp [idx, rng_nI, hk_55, ht_9, c_1, c_26, c_58]), rfl⟩) dX5_indexOf_82
          ·
            obtain ⟨t_9, ht_9, rfl⟩ := rng_ex (N := 4) (x := to) (by decide) (by simp only [Int32.lt_iff_toInt_lt, Int32.le_iff_toInt_le, ← Int32.toInt_inj, nT0, nT1, nT2, nT3, nT4, nT5, nT6, nT7, nT8, nT9, nT10, nT33, nT36, nT42, nT58, nT80, nT126, nT255, i_m1, i_m2, Int32.toInt_zero, Int32.toInt_one] at c_62 c_67; omega) (by simp only [Int32.lt_iff_toInt_lt, Int32.le_iff_toInt_le, ← Int32.toInt_inj, nT0, nT1, nT2, nT3, nT4, nT5, nT6, nT7, nT8, nT9, nT10, nT33, nT36, nT42, nT58, nT80, nT126, nT255, i_m1, i_m2, Int32.toInt_zero, Int32.toInt_one] at c_62 c_67; omega)
            refine q_bp 42 hx hb dX5_indexOf_70 (by decide) ?_
            refine lv_iload_n hx hb dX5_indexOf_72 rfl (lv_at hl 1 rfl) ?_
            refine q_ic 4 hx hb dX5_indexOf_73 (by decide) ?_
            refine q_imul hx hb dX5_indexOf_74 ?_
            refine q_iadd hx hb dX5_indexOf_75 ?_
            refine lv_iload_n hx hb dX5_indexOf_76 rfl (lv_at hl 2 rfl) ?_
            refine q_iadd hx hb dX5_indexOf_77 ?_
            refine lv_goto (tgt := 82) hx hb dX5_indexOf_78 (by decide) ?_
            exact q_iret0 hC hW hr hlk0 (Or.inl ⟨(42 + (k_55 * 4)) + t_9, (by simp [idx, rng_nI, hk_55, ht_9, c_1, c_26, c_58]), by omega, rfl⟩) dX5_indexOf_82
      ·
        refine q_ieq (tgt := 81) hx hb dX5_indexOf_58 (by decide) (by first | omega | exact Nat.lt_of_le_of_lt (hw3 _) (by decide)) (fun c_58 => ?_) (fun c_58 => absurd c_58 (by decide))
        refine lv_iconst (v := -1) hx hb dX5_indexOf_81 (by decide) ?_
        exact q_iret0 hC hW hr hlk0 (Or.inr ⟨(by simp [idx, rng_nI, hk_55, c_1, c_26, c_58]), rfl⟩) dX5_indexOf_82
    ·
      refine lv_iload_n hx hb dX5_indexOf_29 rfl (lv_at hl 1 rfl) ?_
      refine q_kI0 (q_rS (As := [.int (coin)]) (rest := []) hC hW mw_X5_isCoin gw_166 (k_isCoin l G n ad s.heap.size I L R _) ⟨rfl, rfl⟩ ⟨Nat.le_of_ble_eq_true rfl, Nat.le_of_ble_eq_true rfl⟩ ⟨(Nat.le_of_ble_eq_true rfl), (Nat.le_of_ble_eq_true rfl)⟩ hl.1 rfl rfl (Nat.le_of_ble_eq_true rfl) dX5_indexOf_30) hW (fun r_30 H locs hp hW => ?_)
      rcases hp with ⟨k_30, hk_30, rfl, rfl⟩ | ⟨hk_30, rfl⟩
      ·
        refine q_ieq (tgt := 52) hx hb dX5_indexOf_33 (by decide) (by first | omega | exact Nat.lt_of_le_of_lt (hw3 _) (by decide)) (fun c_33 => absurd c_33 (by decide)) (fun c_33 => ?_)
        refine lv_iload_n hx hb dX5_indexOf_36 rfl (lv_at hl 2 rfl) ?_
        refine q_kI0 (q_rS (As := [.int (to)]) (rest := []) hC hW mw_X5_isCoin gw_166 (k_isCoin l G n ad H.size I L R _) ⟨rfl, rfl⟩ ⟨Nat.le_of_ble_eq_true rfl, Nat.le_of_ble_eq_true rfl⟩ ⟨(Nat.le_of_ble_eq_true rfl), (Nat.le_of_ble_eq_true rfl)⟩ hl.1 rfl rfl (Nat.le_of_ble_eq_true rfl) dX5_indexOf_37) hW (fun r_37 H locs hp hW => ?_)
        rcases hp with ⟨k_37, hk_37, rfl, rfl⟩ | ⟨hk_37, rfl⟩
        ·
          refine q_ieq (tgt := 52) hx hb dX5_indexOf_40 (by decide) (by first | omega | exact Nat.lt_of_le_of_lt (hw3 _) (by decide)) (fun c_40 => absurd c_40 (by decide)) (fun c_40 => ?_)
          refine lv_iload_n hx hb dX5_indexOf_43 rfl (lv_at hl 1 rfl) ?_
          refine q_bp 6 hx hb dX5_indexOf_44 (by decide) ?_
          refine q_imul hx hb dX5_indexOf_46 ?_
          refine lv_iload_n hx hb dX5_indexOf_47 rfl (lv_at hl 2 rfl) ?_
          refine q_iadd hx hb dX5_indexOf_48 ?_
          refine lv_goto (tgt := 53) hx hb dX5_indexOf_49 (by decide) ?_
          exact q_iret0 hC hW hr hlk0 (Or.inl ⟨(k_30 * 6) + k_37, (by simp [idx, rng_nI, hk_30, hk_37, c_1, c_26, c_33, c_40]), by omega, rfl⟩) dX5_indexOf_53
        ·
          refine q_ieq (tgt := 52) hx hb dX5_indexOf_40 (by decide) (by first | omega | exact Nat.lt_of_le_of_lt (hw3 _) (by decide)) (fun c_40 => ?_) (fun c_40 => absurd c_40 (by decide))
          refine lv_iconst (v := -1) hx hb dX5_indexOf_52 (by decide) ?_
          exact q_iret0 hC hW hr hlk0 (Or.inr ⟨(by simp [idx, rng_nI, hk_30, hk_37, c_1, c_26, c_33, c_40]), rfl⟩) dX5_indexOf_53
      ·
        refine q_ieq (tgt := 52) hx hb dX5_indexOf_33 (by decide) (by first | omega | exact Nat.lt_of_le_of_lt (hw3 _) (by decide)) (fun c_33 => ?_) (fun c_33 => absurd c_33 (by decide))
        refine lv_iconst (v := -1) hx hb dX5_indexOf_52 (by decide) ?_
        exact q_iret0 hC hW hr hlk0 (Or.inr ⟨(by simp [idx, rng_nI, hk_30, c_1, c_26, c_33]), rfl⟩) dX5_indexOf_53
  ·
    refine lv_iload_n hx hb dX5_indexOf_4 rfl (lv_at hl 1 rfl) ?_
    refine q_kI0 (q_rS (As := [.int (coin)]) (rest := []) hC hW mw_X5_isCoin gw_166 (k_isCoin l G n ad s.heap.size I L R _) ⟨rfl, rfl⟩ ⟨Nat.le_of_ble_eq_true rfl, Nat.le_of_ble_eq_true rfl⟩ ⟨(Nat.le_of_ble_eq_true rfl), (Nat.le_of_ble_eq_true rfl)⟩ hl.1 rfl rfl (Nat.le_of_ble_eq_true rfl) dX5_indexOf_5) hW (fun r_5 H locs hp hW => ?_)
    rcases hp with ⟨k_5, hk_5, rfl, rfl⟩ | ⟨hk_5, rfl⟩
    ·
      refine q_ieq (tgt := 22) hx hb dX5_indexOf_8 (by decide) (by first | omega | exact Nat.lt_of_le_of_lt (hw3 _) (by decide)) (fun c_8 => absurd c_8 (by decide)) (fun c_8 => ?_)
      refine lv_iload_n hx hb dX5_indexOf_11 rfl (lv_at hl 2 rfl) ?_
      refine lv_if_ne (tgt := 22) hx hb dX5_indexOf_12 (by decide) (fun c_12 => ?_) (fun c_12 => ?_)
      ·
        have ht_9 : rng to 1 = none := rng_none.mpr (by simp only [Int32.lt_iff_toInt_lt, Int32.le_iff_toInt_le, ← Int32.toInt_inj, nT0, nT1, nT2, nT3, nT4, nT5, nT6, nT7, nT8, nT9, nT10, nT33, nT36, nT42, nT58, nT80, nT126, nT255, i_m1, i_m2, Int32.toInt_zero, Int32.toInt_one] at c_12; omega)
        refine lv_iconst (v := -1) hx hb dX5_indexOf_22 (by decide) ?_
        exact q_iret0 hC hW hr hlk0 (Or.inr ⟨(by simp [idx, rng_nI, hk_5, ht_9, c_1, c_8]), rfl⟩) dX5_indexOf_23
      ·
        obtain ⟨t_9, ht_9, rfl⟩ := rng_ex (N := 1) (x := to) (by decide) (by simp only [Int32.lt_iff_toInt_lt, Int32.le_iff_toInt_le, ← Int32.toInt_inj, nT0, nT1, nT2, nT3, nT4, nT5, nT6, nT7, nT8, nT9, nT10, nT33, nT36, nT42, nT58, nT80, nT126, nT255, i_m1, i_m2, Int32.toInt_zero, Int32.toInt_one] at c_12; omega) (by simp only [Int32.lt_iff_toInt_lt, Int32.le_iff_toInt_le, ← Int32.toInt_inj, nT0, nT1, nT2, nT3, nT4, nT5, nT6, nT7, nT8, nT9, nT10, nT33, nT36, nT42, nT58, nT80, nT126, nT255, i_m1, i_m2, Int32.toInt_zero, Int32.toInt_one] at c_12; omega)
        refine q_bp 36 hx hb dX5_indexOf_15 (by decide) ?_
        refine lv_iload_n hx hb dX5_indexOf_17 rfl (lv_at hl 1 rfl) ?_
        refine q_iadd hx hb dX5_indexOf_18 ?_
        refine lv_goto (tgt := 23) hx hb dX5_indexOf_19 (by decide) ?_
        exact q_iret0 hC hW hr hlk0 (Or.inl ⟨36 + k_5, (by simp [idx, rng_nI, hk_5, ht_9, c_1, c_8]), by omega, rfl⟩) dX5_indexOf_23
    ·
      refine q_ieq (tgt := 22) hx hb dX5_indexOf_8 (by decide) (by first | omega | exact Nat.lt_of_le_of_lt (hw3 _) (by decide)) (fun c_8 => ?_) (fun c_8 => absurd c_8 (by decide))
      refine lv_iconst (v := -1) hx hb dX5_indexOf_22 (by decide) ?_
      exact q_iret0 hC hW hr hlk0 (Or.inr ⟨(by simp [idx, rng_nI, hk_5, c_1, c_8]), rfl⟩) dX5_indexOf_23
