set_option maxRecDepth 100000 in
/-- the share of a way that is alone -/
theorem sh_1 {s : Int64} {S : Nat} (hs : s.toInt = S) (h0 : 0 < S) (hS : S < 2 ^ 56) : FP.d2f (FP.ddiv (FP.l2d s) (FP.l2d s)) = fb 127 0 := by
  obtain ⟨ha2, hb2, l3, l4, l5, hab⟩ := ab_ex hs hs h0 (Nat.le_refl S) hS
  obtain ⟨d, r, y1, y2, y3⟩ := l2d_f (m := s) (by omega) hb2 (by omega)
  rw [← y3] at l5
  have hd0 : d ≠ 0 := by
    rintro rfl
    have h1 : FP.Core.zmag FP.Core.b64 (.fin false 0 r) = 0 := Nat.zero_mul _
    omega
  have hd : FP.Core.decode FP.Core.b64 (FP.ddiv (FP.l2d s) (FP.l2d s)).toNat = FP.Core.roundRatio FP.Core.b64 false d d (r - r) := by
    rw [show (FP.ddiv (FP.l2d s) (FP.l2d s)).toNat = FP.Core.div FP.Core.b64 (FP.l2d s).toNat (FP.l2d s).toNat from FP.Core.toNat_of64 (FP.Core.quotient_fits FP.Core.good_b64 _ _)]
    unfold FP.Core.div
    rw [FP.Core.decode_enc FP.Core.good_b64 (FP.Core.quotient_fits FP.Core.good_b64 _ _), y1]
    simp only [FP.Core.quotient, if_neg hd0]
    rfl
  have h1 : FP.Core.roundRatio FP.Core.b64 false d d (r - r) = .fin false 4503599627370496 (-52) := by
    refine FP.Core.roundRatio_exact FP.Core.good_b64 (Nat.pos_of_ne_zero hd0) ⟨?_, ?_, ?_, Or.inr ?_⟩ ?_
    · decide
    · decide
    · decide
    · decide
    · rw [show (r - r - -52 : Int).toNat = 52 by omega, show (-52 - (r - r) : Int).toNat = 0 by omega, Nat.pow_zero, Nat.mul_one, Nat.mul_comm]
  rw [h1] at hd
  generalize hQ : FP.ddiv (FP.l2d s) (FP.l2d s) = Q at *
  have hv : FP.Core.val64 Q = .fin false 4503599627370496 (-52) := hd
  have hn : FP.Core.dIsNaN Q = false := by
    show decide (FP.Core.decode FP.Core.b64 Q.toNat = .nan) = false
    rw [hd]; rfl
  have hd2 : FP.d2f Q = FP.Core.d2f Q := by unfold FP.d2f; rw [hn]; rfl
  have h2 : FP.Core.val32 (FP.d2f Q) = .fin false 8388608 (-23) := by
    rw [hd2, FP.Core.val32_d2f, hv]
    show FP.Core.roundRatio FP.Core.b32 false 4503599627370496 1 (-52) = _
    refine FP.Core.roundRatio_exact FP.Core.good_b32 (by decide) ⟨?_, ?_, ?_, Or.inr ?_⟩ ?_ <;> decide
  refine FP.Core.val32_inj (by rw [h2]; exact FP.Core.Datum.noConfusion) ?_
  rw [h2, fb_v (by decide) (by decide) (by decide)]
  rfl
theorem sh_I1 {S : Nat} (h0 : 0 < S) (hS : S < 2 ^ 56) : shI S S = 1065353216 := by
  unfold shI
  rw [sh_1 (lN_ti (show S < 2 ^ 63 by omega)) h0 hS]
  decide
theorem sh_ne {M S : Nat} (h0 : 0 < M) (hMS : M ≤ S) (hS : S < 2 ^ 56) : ¬ shI M S = -5 := fun h => by
  obtain ⟨e, t, he1, he2, ht, hu⟩ := u_ex (lN_ti (show M < 2 ^ 63 by omega)) (lN_ti (show S < 2 ^ 63 by omega)) h0 hMS hS
  unfold shI at h
  rw [hu] at h
  have h1 : (fb e t).toInt32.toBitVec.toNat = e * 8388608 + t := fb_n (by omega) ht
  rw [h, show (-5 : Int32).toBitVec.toNat = 4294967291 by decide] at h1
  omega
theorem one_way {w r : Nat → Nat} (hw : Wok w) {K : Nat} (hK : K ≤ 6) (hC : Cx' w K r K 6 = 1) : Mx' w K r K 6 = Sx' w K r K 6 := by
  have h1 := (way_T (r := r) hw (K := K)).resolve_right (by omega)
  have h2 := rk_lt (r := r) hw hK (by omega)
  have h3 := way_bst (r := r) hw hK (by omega)
  have h4 := prM_b (r := r) hw hK (by omega)
  rw [hC] at h1 h2
  rw [show rkN w r K 0 6 (wayM w r K) = 0 by omega] at h3
  have h1 : 0 + prN w r K 0 6 (wayN w r K 0) = Sx' w K r K 6 := h1
  rw [h3, h4] at h1
  omega
theorem mostN_le2 {g : Nat → Nat} {B : Nat} : ∀ n, (∀ i, i < n → g i ≤ B) → (mostN g n).2 ≤ B
  | 0, _ => Nat.zero_le _
  | n + 1, h => by
    have ih := mostN_le2 n (fun i hi => h i (by omega))
    have := h n (by omega)
    by_cases e : (mostN g n).2 < g n
    · rw [mostN_y e]; exact this
    · rw [mostN_n e]; exact ih
theorem bs_e {w r : Nat → Nat} (hw : Wok w) {K : Nat} (hK : K ≤ 6) (hC : 0 < Cx' w K r K 6) : bsW w r K (Cx' w K r K 6) = nI (rkN w r K 0 6 (wayM w r K)) := by
  unfold bsW
  rw [if_neg (by omega), way_best hw hK hC]
theorem jm_le {j b : Nat} (hj : j < 2 ^ 30) (hb : b < 2 ^ 30) (h : ¬ nI b < nI j - nI 1) : j ≤ b + 1 := by
  rw [Int32.lt_iff_toInt_lt, pk_sub_toInt hj (by decide), nI_toInt (by omega)] at h
  omega
theorem jp1 (j : Nat) : nI (j + 1) - nI 1 = nI j - nI 1 + Int32.ofInt 1 := by
  rw [show (Int32.ofInt 1) = nI 1 by decide, ← nI_add, Int32.add_sub_cancel, Int32.sub_add_cancel]
theorem aLk {m : CM} {x : Int32} (hT : ¬ aTot m = 0) (h : -2 < x.toInt) : aLik m x = tellS (wayN m.1 m.2.2 m.2.1 (bstN m)) x := by
  unfold aLik
  rw [if_neg (by omega), if_neg hT, if_neg (fun q => by rw [q, i_m2] at h; omega)]
theorem aLk2 {m : CM} (hT : ¬ aTot m = 0) : aLik m (-2) = nI (bstN m) := by
  unfold aLik
  rw [if_neg (by decide), if_neg hT, if_pos rfl]
theorem aLk0 {m : CM} (hT : aTot m = 0) : aLik m (-2) = -5 := by
  unfold aLik
  rw [if_neg (by decide), if_pos hT]
theorem jm_2 {j : Nat} (hj : j < 2 ^ 30) : -2 < (nI j - nI 1).toInt := by rw [pk_sub_toInt hj (by decide)]; omega
theorem jm_1 {j : Nat} (hj : j < 2 ^ 30) : ¬ (nI j - nI 1).toInt < -1 := by rw [pk_sub_toInt hj (by decide)]; omega
