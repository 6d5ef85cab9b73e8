def pw (k : Nat) : Nat := if h : k = 0 then 1 else 2 * pw (k - 1)
termination_by k
decreasing_by omega
theorem pw_d : ∀ k : Nat, 2 ^ k = pw k
  | 0 => by rw [pw]; rfl
  | k + 1 => by rw [pw, dif_neg (by omega), Nat.add_sub_cancel, ← pw_d k, Nat.pow_succ']
theorem pw_a (a b : Nat) : pw a * pw b = pw (a + b) := by rw [← pw_d, ← pw_d, ← pw_d]; exact (Nat.pow_add ..).symm
theorem pw_p (k : Nat) : 0 < pw k := by rw [← pw_d]; exact Nat.two_pow_pos k
theorem pw_l {a b : Nat} (h : a ≤ b) : pw a ≤ pw b := by rw [← pw_d, ← pw_d]; exact Nat.pow_le_pow_right (by decide) h
theorem pw_s (k : Nat) : pw (k + 1) = 2 * pw k := by rw [← pw_d, ← pw_d]; exact Nat.pow_succ'
theorem pw_52 : (4503599627370496 : Nat) = pw 52 := by rw [← pw_d]
theorem pw_51 : (2251799813685248 : Nat) = pw 51 := by rw [← pw_d]
theorem pw_23 : (8388608 : Nat) = pw 23 := by rw [← pw_d]
theorem pw_22 : (4194304 : Nat) = pw 22 := by rw [← pw_d]
theorem u64_s {K : Nat} (h : 1 ≤ K) : FP.Core.unitsOf FP.Core.b64 (K * 4503599627370496) = pw (51 + K) := by
  have h9 := FP.Core.unitsOf_start (f := FP.Core.b64) h
  rw [FP.Core.tails_b64, pw_d, pw_d, pw_a] at h9
  rw [show (4503599627370496 : Nat) = pw 52 from pw_52, h9]
  congr 1
  omega
theorem u64_h {K : Nat} (h : 1 ≤ K) : FP.Core.unitsOf FP.Core.b64 (K * 4503599627370496 + 2251799813685248) = 3 * pw (50 + K) := by
  unfold FP.Core.unitsOf
  rw [FP.Core.tails_b64]
  rw [if_neg (by omega), show (K * 4503599627370496 + 2251799813685248) % 2 ^ 52 = 2251799813685248 by omega, show (K * 4503599627370496 + 2251799813685248) / 2 ^ 52 = K by omega]
  rw [show (2 : Nat) ^ 52 + 2251799813685248 = 3 * 2251799813685248 by decide, pw_51, pw_d, Nat.mul_assoc, pw_a]
  congr 2
  omega
/-- a whole number as a double: between format numbers that it is between -/
theorem l2d_d (m : Int64) : FP.Core.decode FP.Core.b64 (FP.l2d m).toNat = FP.Core.roundRatio FP.Core.b64 (decide (m.toInt < 0)) m.toInt.natAbs 1 0 := by
  rw [show (FP.l2d m).toNat = FP.Core.fromInt FP.Core.b64 m.toInt from FP.Core.toNat_l2d m]
  exact FP.Core.decode_enc FP.Core.good_b64 (FP.Core.round_fits FP.Core.good_b64 _)
theorem q64 : FP.Core.b64.qmin = -1074 := by decide
set_option maxRecDepth 100000 in
theorem l2d_le {m : Int64} {v : Nat} (h : m.toInt.natAbs * pw 1074 ≤ FP.Core.unitsOf FP.Core.b64 v) : FP.Core.mag FP.Core.b64 (FP.l2d m).toNat ≤ v := by
  refine FP.Core.mag_le FP.Core.good_b64 (l2d_d m) (by decide) (e0 := -1074) (by decide) (by decide) ?_
  rw [show (FP.Core.b64.qmin - -1074).toNat = 0 by decide, Nat.pow_zero, Nat.mul_one, Nat.mul_one]
  unfold FP.Core.inUnits
  rw [show (0 - -1074 : Int).toNat = 1074 by decide, pw_d]
  exact h
set_option maxRecDepth 100000 in
theorem l2d_ge {m : Int64} {v : Nat} (hv : v ≤ FP.Core.infBits FP.Core.b64) (h : FP.Core.unitsOf FP.Core.b64 v ≤ m.toInt.natAbs * pw 1074) : v ≤ FP.Core.mag FP.Core.b64 (FP.l2d m).toNat := by
  refine FP.Core.mag_ge FP.Core.good_b64 (l2d_d m) (by decide) (e0 := -1074) (by decide) (by decide) hv ?_
  rw [show (FP.Core.b64.qmin - -1074).toNat = 0 by decide, Nat.pow_zero, Nat.mul_one, Nat.mul_one]
  unfold FP.Core.inUnits
  rw [show (0 - -1074 : Int).toNat = 1074 by decide, pw_d]
  exact h
theorem l2d_f {m : Int64} {K : Nat} (hm : 0 ≤ m.toInt) (hf : FP.Core.mag FP.Core.b64 (FP.l2d m).toNat ≤ K * 4503599627370496) (hK : K < 2047) : ∃ c q, FP.Core.decode FP.Core.b64 (FP.l2d m).toNat = .fin false c q ∧ FP.Core.fits FP.Core.b64 (.fin false c q) ∧ FP.Core.zmag FP.Core.b64 (.fin false c q) = FP.Core.unitsOf FP.Core.b64 (FP.Core.mag FP.Core.b64 (FP.l2d m).toNat) := by
  obtain ⟨s, c, q, h1, h2, h3⟩ := FP.Core.fin_of_mag FP.Core.good_b64 (n := (FP.l2d m).toNat) (by rw [FP.Core.infBits_b64]; omega)
  have hs := congrArg FP.Core.sgn (l2d_d m)
  rw [FP.Core.sgn_roundRatio, h1] at hs
  have hs2 : s = false := hs.trans (decide_eq_false (by omega))
  subst hs2
  exact ⟨c, q, h1, h2, h3⟩
/-- the greatest power of two -/
theorem log_x {S : Nat} (h : 0 < S) : pw S.log2 ≤ S ∧ S < 2 * pw S.log2 := by
  rw [← pw_s, ← pw_d, ← pw_d]
  exact ⟨Nat.log2_self_le (by omega), Nat.lt_log2_self⟩
theorem iB : FP.Core.infBits FP.Core.b64 = 9218868437227405312 := FP.Core.infBits_b64
theorem iB_h {k : Nat} (h : k < 56) : (1023 + k) * 4503599627370496 + 2251799813685248 ≤ FP.Core.infBits (FP.Core.b64) := by rw [iB]; omega
theorem iB_s {k : Nat} (h : k < 56) : (1023 + k) * 4503599627370496 ≤ FP.Core.infBits (FP.Core.b64) := by rw [iB]; omega
theorem mul3 (a b c : Nat) : a * (b * c) = (b * a) * c := by rw [← Nat.mul_assoc, Nat.mul_comm a b]
set_option maxRecDepth 100000 in
/-- two whole numbers, as doubles: powers of two around them -/
theorem ab_ex {m s : Int64} {M S : Nat} (hm : m.toInt = M) (hs : s.toInt = S) (h0 : 0 < M) (hMS : M ≤ S) (hS : S < 2 ^ 56) : FP.Core.mag FP.Core.b64 (FP.l2d m).toNat ≤ 1080 * 4503599627370496 ∧ FP.Core.mag FP.Core.b64 (FP.l2d s).toNat ≤ 1080 * 4503599627370496 ∧ pw 1074 ≤ FP.Core.unitsOf FP.Core.b64 (FP.Core.mag FP.Core.b64 (FP.l2d m).toNat) ∧ FP.Core.unitsOf FP.Core.b64 (FP.Core.mag FP.Core.b64 (FP.l2d s).toNat) ≤ pw 1130 ∧ 0 < FP.Core.unitsOf FP.Core.b64 (FP.Core.mag FP.Core.b64 (FP.l2d s).toNat) ∧ 2 * FP.Core.unitsOf FP.Core.b64 (FP.Core.mag FP.Core.b64 (FP.l2d m).toNat) ≤ 3 * FP.Core.unitsOf FP.Core.b64 (FP.Core.mag FP.Core.b64 (FP.l2d s).toNat) := by
  have hmn : m.toInt.natAbs = M := by rw [hm]; rfl
  have hsn : s.toInt.natAbs = S := by rw [hs]; rfl
  obtain ⟨l1, l2⟩ := log_x (show 0 < S by omega)
  have lk : S.log2 < 56 := (Nat.pow_lt_pow_iff_right (by decide : 1 < 2)).mp (Nat.lt_of_le_of_lt (by rw [pw_d]; exact l1) hS)
  generalize S.log2 = k at l1 l2 lk
  have pk : pw (51 + (1023 + k)) = pw k * pw 1074 := by rw [pw_a]; congr 1; omega
  have pk1 : pw (51 + (1024 + k)) = (2 * pw k) * pw 1074 := by rw [← pw_s, pw_a]; congr 1; omega
  have pp : pw 1074 = 2 * pw 1073 := pw_s 1073
  have ph : pw (50 + (1023 + k)) = pw k * pw 1073 := by rw [pw_a]; congr 1; omega
  have pk2 : pw (51 + (1023 + k)) = 2 * (pw k * pw 1073) := by rw [pk, pp, Nat.mul_left_comm]
  have pk3 : pw (51 + (1024 + k)) = 4 * (pw k * pw 1073) := by rw [pk1, pp, Nat.mul_left_comm, Nat.mul_assoc, ← Nat.mul_assoc 2 2]
  have hb1 : (1023 + k) * 4503599627370496 ≤ FP.Core.mag FP.Core.b64 (FP.l2d s).toNat := l2d_ge (iB_s lk) (by rw [u64_s (by omega), hsn, pk]; exact Nat.mul_le_mul_right _ l1)
  have hb2 : FP.Core.mag FP.Core.b64 (FP.l2d s).toNat ≤ (1024 + k) * 4503599627370496 := l2d_le (by rw [u64_s (by omega), hsn, pk1]; exact Nat.mul_le_mul_right _ (by omega))
  have ha1 : 1023 * 4503599627370496 ≤ FP.Core.mag FP.Core.b64 (FP.l2d m).toNat := l2d_ge (iB_s (k := 0) (by decide)) (by rw [u64_s (by omega), hmn]; exact Nat.le_mul_of_pos_left _ h0)
  have ha2 : FP.Core.mag FP.Core.b64 (FP.l2d m).toNat ≤ (1024 + k) * 4503599627370496 := l2d_le (by rw [u64_s (by omega), hmn, pk1]; exact Nat.mul_le_mul_right _ (by omega))
  have eb1 := (FP.Core.unitsOf_le_iff (f := FP.Core.b64)).mpr hb1
  have eb2 := (FP.Core.unitsOf_le_iff (f := FP.Core.b64)).mpr hb2
  have ea1 := (FP.Core.unitsOf_le_iff (f := FP.Core.b64)).mpr ha1
  have ea2 := (FP.Core.unitsOf_le_iff (f := FP.Core.b64)).mpr ha2
  rw [u64_s (by omega)] at eb1 eb2 ea1 ea2
  refine ⟨Nat.le_trans ha2 (Nat.mul_le_mul_right _ (by omega)), Nat.le_trans hb2 (Nat.mul_le_mul_right _ (by omega)), ea1, Nat.le_trans eb2 (pw_l (by omega)), Nat.lt_of_lt_of_le (pw_p _) eb1, ?_⟩
  by_cases hh : 2 * S < 3 * pw k
  · have ha3 : FP.Core.mag FP.Core.b64 (FP.l2d m).toNat ≤ (1023 + k) * 4503599627370496 + 2251799813685248 := l2d_le (by
      rw [u64_h (by omega), hmn, ph, pp, mul3, ← Nat.mul_assoc]
      exact Nat.mul_le_mul_right _ (by omega))
    have e1 := (FP.Core.unitsOf_le_iff (f := FP.Core.b64)).mpr ha3
    rw [u64_h (by omega), ph] at e1
    rw [pk2] at eb1
    omega
  · have hb3 : (1023 + k) * 4503599627370496 + 2251799813685248 ≤ FP.Core.mag FP.Core.b64 (FP.l2d s).toNat := l2d_ge (iB_h lk) (by
      rw [u64_h (by omega), hsn, ph, pp, mul3, ← Nat.mul_assoc]
      exact Nat.mul_le_mul_right _ (by omega))
    have e2 := (FP.Core.unitsOf_le_iff (f := FP.Core.b64)).mpr hb3
    rw [u64_h (by omega), ph] at e2
    rw [pk3] at ea2
    omega
set_option maxRecDepth 100000 in
theorem q_ex {m s : Int64} {M S : Nat} (hm : m.toInt = M) (hs : s.toInt = S) (h0 : 0 < M) (hMS : M ≤ S) (hS : S < 2 ^ 56) : ∃ c q, FP.Core.decode FP.Core.b64 (FP.ddiv (FP.l2d m) (FP.l2d s)).toNat = .fin false c q ∧ FP.Core.fits FP.Core.b64 (.fin false c q) ∧ pw 1017 ≤ FP.Core.zmag FP.Core.b64 (.fin false c q) ∧ FP.Core.zmag FP.Core.b64 (.fin false c q) ≤ 3 * pw 1073 := by
  obtain ⟨ha2, hb2, l3, l4, l5, hab⟩ := ab_ex hm hs h0 hMS hS
  obtain ⟨c, q, x1, x2, x3⟩ := l2d_f (m := m) (by omega) ha2 (by omega)
  obtain ⟨d, r, y1, y2, y3⟩ := l2d_f (m := s) (by omega) hb2 (by omega)
  rw [← x3] at l3 hab
  rw [← y3] at l4 l5 hab
  have hd0 : d ≠ 0 := by
    rintro rfl
    have h1 : FP.Core.zmag FP.Core.b64 (.fin false 0 r) = 0 := Nat.zero_mul _
    omega
  have hd : FP.Core.decode FP.Core.b64 (FP.ddiv (FP.l2d m) (FP.l2d s)).toNat = FP.Core.roundRatio FP.Core.b64 false c d (q - r) := by
    rw [show (FP.ddiv (FP.l2d m) (FP.l2d s)).toNat = FP.Core.div FP.Core.b64 (FP.l2d m).toNat (FP.l2d s).toNat from FP.Core.toNat_of64 (FP.Core.quotient_fits FP.Core.good_b64 _ _)]
    unfold FP.Core.div
    rw [FP.Core.decode_enc FP.Core.good_b64 (FP.Core.quotient_fits FP.Core.good_b64 _ _), x1, y1]
    simp only [FP.Core.quotient, if_neg hd0]
    rfl
  have hx1 := x2.2.1
  have hy1 := y2.2.1
  rw [q64] at hx1 hy1
  have e1 : FP.Core.inUnits c (q - r) (2 * -1074 - r) = FP.Core.zmag FP.Core.b64 (.fin false c q) * pw 1074 := by
    show c * _ = c * _ * _
    rw [q64, pw_d, pw_d, Nat.mul_assoc, pw_a]
    congr 2
    omega
  have e2 : 2 ^ (FP.Core.b64.qmin - (2 * -1074 - r)).toNat * d = FP.Core.zmag FP.Core.b64 (.fin false d r) := by
    show _ = d * _
    rw [Nat.mul_comm, q64]
    congr 2
    omega
  generalize FP.Core.zmag FP.Core.b64 (.fin false c q) = zc at *
  generalize FP.Core.zmag FP.Core.b64 (.fin false d r) = zd at *
  have pp : pw 1074 = 2 * pw 1073 := pw_s 1073
  have u1 := FP.Core.mag_le FP.Core.good_b64 hd (m := 1023 * 4503599627370496 + 2251799813685248) (by omega) (e0 := 2 * -1074 - r) (by rw [q64]; omega) (by omega) (by
    rw [e1, Nat.mul_assoc, e2, u64_h (by decide), pp, mul3, Nat.mul_assoc 3, Nat.mul_comm (pw _) zd, ← Nat.mul_assoc]
    exact Nat.mul_le_mul_right _ hab)
  have u2 := FP.Core.mag_ge FP.Core.good_b64 hd (m := 966 * 4503599627370496) (by omega) (e0 := 2 * -1074 - r) (by rw [q64]; omega) (by omega) (by rw [iB]; omega) (by
    rw [e1, Nat.mul_assoc, e2, u64_s (by decide)]
    refine Nat.le_trans (Nat.mul_le_mul_left _ l4) (Nat.le_trans ?_ (Nat.mul_le_mul_right _ l3))
    rw [pw_a, pw_a]
    exact pw_l (by omega))
  obtain ⟨s1, c1, q1, z1, z2, z3⟩ := FP.Core.fin_of_mag FP.Core.good_b64 (n := (FP.ddiv (FP.l2d m) (FP.l2d s)).toNat) (by rw [iB]; omega)
  have hsg := congrArg FP.Core.sgn hd
  rw [FP.Core.sgn_roundRatio, z1] at hsg
  have hs2 : s1 = false := hsg
  subst hs2
  have e3 := (FP.Core.unitsOf_le_iff (f := FP.Core.b64)).mpr u2
  have e4 := (FP.Core.unitsOf_le_iff (f := FP.Core.b64)).mpr u1
  rw [u64_s (by decide)] at e3
  rw [u64_h (by decide)] at e4
  exact ⟨c1, q1, z1, z2, by rw [z3]; exact e3, by rw [z3]; exact e4⟩
theorem u32_s {K : Nat} (h : 1 ≤ K) : FP.Core.unitsOf FP.Core.b32 (K * 8388608) = pw (22 + K) := by
  have h9 := FP.Core.unitsOf_start (f := FP.Core.b32) h
  rw [FP.Core.tails_b32, pw_d, pw_d, pw_a] at h9
  rw [pw_23, h9]
  congr 1
  omega
theorem u32_h {K : Nat} (h : 1 ≤ K) : FP.Core.unitsOf FP.Core.b32 (K * 8388608 + 4194304) = 3 * pw (21 + K) := by
  unfold FP.Core.unitsOf
  rw [FP.Core.tails_b32]
  rw [if_neg (by omega), show (K * 8388608 + 4194304) % 2 ^ 23 = 4194304 by omega, show (K * 8388608 + 4194304) / 2 ^ 23 = K by omega]
  rw [show (2 : Nat) ^ 23 + 4194304 = 3 * 4194304 by decide, pw_22, pw_d, Nat.mul_assoc, pw_a]
  congr 2
  omega
set_option maxRecDepth 100000 in
/-- a share as a float -/
theorem u_ex {m s : Int64} {M S : Nat} (hm : m.toInt = M) (hs : s.toInt = S) (h0 : 0 < M) (hMS : M ≤ S) (hS : S < 2 ^ 56) : ∃ e t, 1 ≤ e ∧ e ≤ 127 ∧ t < 8388608 ∧ FP.d2f (FP.ddiv (FP.l2d m) (FP.l2d s)) = fb e t := by
  obtain ⟨c, q, h1, h2, h3, h4⟩ := q_ex hm hs h0 hMS hS
  generalize hQ : FP.ddiv (FP.l2d m) (FP.l2d s) = Q at *
  have hv : FP.Core.val64 Q = .fin false c q := h1
  have hn : FP.Core.dIsNaN Q = false := by
    show decide (FP.Core.decode FP.Core.b64 Q.toNat = .nan) = false
    rw [h1]; rfl
  have hd2 : FP.d2f Q = FP.Core.d2f Q := by unfold FP.d2f; rw [hn]; rfl
  have hd : FP.Core.decode FP.Core.b32 (FP.d2f Q).toNat = FP.Core.roundRatio FP.Core.b32 false c 1 q := by
    rw [hd2]
    have h9 := FP.Core.val32_d2f Q
    rw [hv] at h9
    exact h9
  have hq1 := h2.2.1
  rw [q64] at hq1
  have hz : FP.Core.zmag FP.Core.b64 (.fin false c q) = c * pw (q - -1074).toNat := by
    show FP.Core.inUnits c q FP.Core.b64.qmin = _
    rw [q64]
    unfold FP.Core.inUnits
    rw [pw_d]
  have u1 := FP.Core.mag_le FP.Core.good_b32 hd (m := 127 * 8388608 + 4194304) (by decide) (e0 := -1074) (by decide) (by omega) (by
    rw [u32_h (by decide), show (FP.Core.b32.qmin - -1074).toNat = 925 by decide, pw_d, Nat.mul_one, Nat.mul_assoc, pw_a]
    unfold FP.Core.inUnits
    rw [pw_d, ← hz]
    exact h4)
  have u2 := FP.Core.mag_ge FP.Core.good_b32 hd (m := 70 * 8388608) (by decide) (e0 := -1074) (by decide) (by omega) (by rw [FP.Core.infBits_b32]; omega) (by
    rw [u32_s (by decide), show (FP.Core.b32.qmin - -1074).toNat = 925 by decide, pw_d, Nat.mul_one, pw_a]
    unfold FP.Core.inUnits
    rw [pw_d, ← hz]
    exact h3)
  have hnn : FP.Core.val32 (FP.d2f Q) ≠ .nan := by
    show FP.Core.decode FP.Core.b32 (FP.d2f Q).toNat ≠ .nan
    rw [hd]
    exact FP.Core.roundRatio_ne_nan _ _ _ _ _
  have hsg := FP.Core.sgn_bits32 hnn
  have hsg2 : FP.Core.sgn (FP.Core.val32 (FP.d2f Q)) = false := by
    show FP.Core.sgn (FP.Core.decode FP.Core.b32 (FP.d2f Q).toNat) = false
    rw [hd, FP.Core.sgn_roundRatio]
  rw [hsg2] at hsg
  have hlt : (FP.d2f Q).toNat < 2 ^ 31 := by
    have := of_decide_eq_false hsg.symm
    omega
  rw [FP.Core.mag_of_lt (by rw [FP.Core.half_b32]; exact hlt)] at u1 u2
  refine ⟨(FP.d2f Q).toNat / 8388608, (FP.d2f Q).toNat % 8388608, by omega, by omega, by omega, ?_⟩
  apply UInt32.toNat_inj.mp
  rw [fb_n (by omega) (by omega)]
  omega
