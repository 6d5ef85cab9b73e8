theorem fp_2 : (2 : Nat) ^ 23 = 8388608 := by decide
theorem fp_t : FP.Core.b32.tails = 8388608 := by decide
theorem fp_e : FP.Core.b32.exps = 256 := by decide
theorem fp_q : FP.Core.b32.qmin = -149 := by decide
theorem dec32 {e t : Nat} (h1 : 1 ≤ e) (h2 : e < 255) (ht : t < 8388608) : FP.Core.decode FP.Core.b32 (e * 8388608 + t) = .fin false (8388608 + t) ((e : Int) - 150) := by
  have e1 : (e * 8388608 + t) / 8388608 = e := by omega
  have e2 : (e * 8388608 + t) % 8388608 = t := by omega
  unfold FP.Core.decode
  have hE : FP.Core.fieldE FP.Core.b32 (e * 8388608 + t) = e := by unfold FP.Core.fieldE; rw [fp_t, fp_e, e1]; omega
  have hT : FP.Core.fieldT FP.Core.b32 (e * 8388608 + t) = t := by unfold FP.Core.fieldT; rw [fp_t, e2]
  have hS : FP.Core.fieldS FP.Core.b32 (e * 8388608 + t) = false := by unfold FP.Core.fieldS; rw [fp_t, fp_e, e1, Nat.div_eq_of_lt (by omega)]; rfl
  rw [hE, hT, hS, fp_e, fp_t, fp_q, if_neg (by omega), if_neg (by omega)]
  congr 1
  omega
def fb (e t : Nat) : UInt32 := UInt32.ofNat (e * 8388608 + t)
theorem fb_n {e t : Nat} (h2 : e < 255) (ht : t < 8388608) : (fb e t).toNat = e * 8388608 + t := by
  unfold fb
  rw [UInt32.toNat_ofNat']
  exact Nat.mod_eq_of_lt (by omega)
theorem fb_v {e t : Nat} (h1 : 1 ≤ e) (h2 : e < 255) (ht : t < 8388608) : FP.Core.val32 (fb e t) = .fin false (8388608 + t) ((e : Int) - 150) := by
  unfold FP.Core.val32
  rw [fb_n h2 ht]
  exact dec32 h1 h2 ht
theorem fb_2 {e t : Nat} (h1 : 1 ≤ e) (h2 : e < 254) (ht : t < 8388608) : FP.fmul (fb e t) FP.fconst2 = fb (e + 1) t := by
  have v2 : FP.Core.val32 FP.fconst2 = .fin false 8388608 (-22) := by decide +kernel
  have hv : FP.Core.val32 (FP.fmul (fb e t) FP.fconst2) = .fin false (8388608 + t) (((e + 1 : Nat) : Int) - 150) := by
    rw [show FP.fmul (fb e t) FP.fconst2 = FP.Core.fmul (fb e t) FP.fconst2 from rfl, FP.Core.val32_fmul, fb_v h1 (by omega) ht, v2]
    show FP.Core.round FP.Core.b32 (.fin (false != false) ((8388608 + t) * 8388608) ((e : Int) - 150 + -22)) = _
    show FP.Core.roundRatio FP.Core.b32 false ((8388608 + t) * 8388608) 1 ((e : Int) - 150 + -22) = _
    refine FP.Core.roundRatio_exact FP.Core.good_b32 (by decide) ⟨?_, ?_, ?_, Or.inr ?_⟩ ?_
    · rw [show (2 : Nat) ^ FP.Core.b32.p = 16777216 by decide]; omega
    · rw [fp_q]; omega
    · rw [show FP.Core.b32.qmax = 104 by decide]; omega
    · rw [fp_t]; omega
    · rw [show ((e : Int) - 150 + -22 - (((e + 1 : Nat) : Int) - 150)).toNat = 0 by omega, show ((((e + 1 : Nat) : Int) - 150) - ((e : Int) - 150 + -22)).toNat = 23 by omega, fp_2]
      simp
  refine FP.Core.val32_inj (by rw [hv]; exact FP.Core.Datum.noConfusion) ?_
  rw [hv, fb_v (by omega) (by omega) ht]
theorem fb_key {e t : Nat} (h2 : e < 255) (ht : t < 8388608) : FP.Core.key FP.Core.b32 (fb e t).toNat = ((e * 8388608 + t : Nat) : Int) := by
  unfold FP.Core.key
  rw [fb_n h2 ht, FP.Core.half_b32, FP.Core.mag_of_lt (by rw [FP.Core.half_b32]; omega)]
  rw [decide_eq_false (by omega)]
  rfl
theorem fb_c {e t : Nat} (h1 : 1 ≤ e) (h2 : e < 255) (ht : t < 8388608) : FP.fcmp (fb e t) FP.fconst1 = some (compare ((e * 8388608 + t : Nat) : Int) ((127 * 8388608 : Nat) : Int)) := by
  have e1 : FP.fconst1 = fb 127 0 := by decide
  rw [e1]
  show FP.Core.cmp FP.Core.b32 (fb e t).toNat (fb 127 0).toNat = _
  rw [FP.Core.cmp_key FP.Core.good_b32 (FP.Core.lt_full32 _) (FP.Core.lt_full32 _) (by
    have := fb_v h1 h2 ht
    unfold FP.Core.val32 at this
    rw [this]; exact FP.Core.Datum.noConfusion) (by
    have := fb_v (e := 127) (t := 0) (by decide) (by decide) (by decide)
    unfold FP.Core.val32 at this
    rw [this]; exact FP.Core.Datum.noConfusion), fb_key h2 ht, fb_key (by decide) (by decide)]
theorem fb_lt {e t : Nat} (h1 : 1 ≤ e) (h2 : e < 127) (ht : t < 8388608) : FP.cmpInt 1 (FP.fcmp (fb e t) FP.fconst1) = -1 := by
  rw [fb_c h1 (by omega) ht, Int.compare_eq_lt.mpr (by omega)]
  rfl
theorem fb_ge {t : Nat} (ht : t < 8388608) : FP.cmpInt 1 (FP.fcmp (fb 127 t) FP.fconst1) = 0 ∨ FP.cmpInt 1 (FP.fcmp (fb 127 t) FP.fconst1) = 1 := by
  rw [fb_c (by decide) (by decide) ht]
  by_cases e : t = 0
  · subst e
    left
    rw [Int.compare_eq_eq.mpr (by omega)]
    rfl
  · right
    rw [Int.compare_eq_gt.mpr (by omega)]
    rfl
theorem fb_tail {t : Nat} (ht : t < 8388608) : FP.f2i (FP.fmul (FP.fsub (fb 127 t) FP.fconst1) (1258291200 : UInt32)) = nI t := by
  have v1 : FP.Core.val32 FP.fconst1 = .fin false 8388608 (-23) := by decide +kernel
  have vk : FP.Core.val32 (1258291200 : UInt32) = .fin false 8388608 0 := by decide +kernel
  have hs : FP.Core.val32 (FP.fsub (fb 127 t) FP.fconst1) = FP.Core.round FP.Core.b32 (.fin false t (-23)) := by
    rw [show FP.fsub (fb 127 t) FP.fconst1 = FP.Core.fsub (fb 127 t) FP.fconst1 from rfl, FP.Core.val32_fsub, fb_v (by decide) (by decide) ht, v1]
    have hu : FP.Core.sumUnits false (8388608 + t) (((127 : Nat) : Int) - 150) (!false) 8388608 (-23) (min (((127 : Nat) : Int) - 150) (-23)) = (t : Int) := by
      show FP.Core.signed false (FP.Core.inUnits (8388608 + t) (-23) (-23)) + FP.Core.signed true (FP.Core.inUnits 8388608 (-23) (-23)) = _
      unfold FP.Core.inUnits FP.Core.signed
      simp
      omega
    show FP.Core.round FP.Core.b32 (.fin (FP.Core.sumSign false (!false) _) (Int.natAbs _) _) = _
    rw [hu]
    have hsg : FP.Core.sumSign false (!false) (t : Int) = false := by
      unfold FP.Core.sumSign
      by_cases h0 : (t : Int) = 0
      · rw [if_pos h0]; rfl
      · rw [if_neg h0]; exact decide_eq_false (by omega)
    rw [hsg]
    rfl
  obtain ⟨c', q', hr, hu⟩ := FP.Core.round_exact FP.Core.good_b32 false (c := t) (q := -23) (by rw [show (2 : Nat) ^ FP.Core.b32.p = 16777216 by decide]; omega) (by decide) (by decide)
  have hW : FP.Core.Whole (t : Int) (FP.Core.exactProduct (.fin false c' q') (.fin false 8388608 0)) := by
    show FP.Core.signed false (c' * 8388608 * 2 ^ (q' + 0).toNat) = (t : Int) * ((2 ^ (-(q' + 0)).toNat : Nat) : Int)
    have hf := FP.Core.round_fits FP.Core.good_b32 (.fin false t (-23))
    rw [hr] at hf
    have hq := hf.2.1
    rw [fp_q] at hq hu
    unfold FP.Core.inUnits at hu
    rw [show (-23 - -149 : Int).toNat = 126 by decide] at hu
    rw [Int.add_zero]
    have hkey : c' * 8388608 * 2 ^ q'.toNat = t * 2 ^ (-q').toNat := by
      refine Nat.eq_of_mul_eq_mul_right (Nat.two_pow_pos 126) ?_
      calc c' * 8388608 * 2 ^ q'.toNat * 2 ^ 126 = c' * 2 ^ (23 + q'.toNat + 126) := by rw [Nat.pow_add, Nat.pow_add, fp_2]; ac_rfl
        _ = c' * 2 ^ ((q' - -149).toNat + (-q').toNat) := by congr 2; omega
        _ = (c' * 2 ^ (q' - -149).toNat) * 2 ^ (-q').toNat := by rw [Nat.pow_add, Nat.mul_assoc]
        _ = t * 2 ^ (-q').toNat * 2 ^ 126 := by rw [hu]; ac_rfl
    show ((c' * 8388608 * 2 ^ q'.toNat : Nat) : Int) = _
    rw [hkey, Int.natCast_mul]
  have hF : FP.Core.FInt (t : Int) (FP.fmul (FP.fsub (fb 127 t) FP.fconst1) (1258291200 : UInt32)) := by
    unfold FP.Core.FInt
    rw [show FP.fmul (FP.fsub (fb 127 t) FP.fconst1) (1258291200 : UInt32) = FP.Core.fmul (FP.fsub (fb 127 t) FP.fconst1) (1258291200 : UInt32) from rfl, FP.Core.val32_fmul, hs, hr, vk]
    exact FP.Core.whole_round FP.Core.good_b32 FP.Core.wide_b32 (by rw [show (2 : Nat) ^ FP.Core.b32.p = 16777216 by decide]; omega) hW
  refine FP.Core.f2i_int (a := nI t) ?_
  rw [nI_toInt (by omega)]
  exact hF
theorem fb_or {e t : Nat} (he : e ≤ 127) (ht : t < 8388608) : (nI e <<< (nI 23 &&& 31)) ||| nI t = (fb e t).toInt32 := by
  apply Int32.toBitVec_inj.mp
  rw [Int32.toBitVec_or, Int32.toBitVec_shiftLeft]
  apply BitVec.eq_of_toNat_eq
  have h1 : (fb e t).toInt32.toBitVec.toNat = e * 8388608 + t := fb_n (by omega) ht
  rw [h1, BitVec.toNat_or]
  have h2 : ((nI e).toBitVec <<< ((nI 23 &&& 31).toBitVec.smod 32)).toNat = 2 ^ 23 * e := by
    rw [show ((nI 23 &&& 31).toBitVec.smod 32 : BitVec 32) = 23#32 by decide]
    show ((nI e).toBitVec <<< (23 : Nat)).toNat = _
    rw [BitVec.toNat_shiftLeft]
    show ((BitVec.ofNat 32 e).toNat <<< 23) % 2 ^ 32 = _
    rw [BitVec.toNat_ofNat, Nat.mod_eq_of_lt (by omega), Nat.shiftLeft_eq, Nat.mod_eq_of_lt (by omega), Nat.mul_comm]
  have h3 : (nI t).toBitVec.toNat = t := by
    show (BitVec.ofNat 32 t).toNat = t
    rw [BitVec.toNat_ofNat, Nat.mod_eq_of_lt (by omega)]
  rw [h2, h3, ← Nat.two_pow_add_eq_or_of_lt (by rw [fp_2]; exact ht), fp_2]
  omega
