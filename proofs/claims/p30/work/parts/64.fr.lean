theorem n32 {r : UInt32} (h : FP.Core.val32 r ≠ .nan) : vf_n32 r := by
  have h1 := (FP.Core.ne_nan32 r).mp h
  show (r &&& 0x7fffffff).toNat ≤ (0x7f800000 : UInt32).toNat
  rw [UInt32.toNat_and, show (0x7fffffff : UInt32).toNat = 2 ^ 31 - 1 by decide, Nat.and_two_pow_sub_one_eq_mod]
  exact h1
theorem n64 {r : UInt64} (h : FP.Core.val64 r ≠ .nan) : vf_n64 r := by
  have h1 := (FP.Core.ne_nan r).mp h
  show (r &&& 0x7fffffffffffffff).toNat ≤ (0x7ff0000000000000 : UInt64).toNat
  rw [UInt64.toNat_and, show (0x7fffffffffffffff : UInt64).toNat = 2 ^ 63 - 1 by decide, Nat.and_two_pow_sub_one_eq_mod]
  exact h1
theorem fb_nn {e t : Nat} (h1 : 1 ≤ e) (h2 : e < 255) (ht : t < 8388608) : FP.Core.val32 (fb e t) ≠ .nan := by
  rw [fb_v h1 h2 ht]; exact FP.Core.Datum.noConfusion
theorem fb_s1 {t : Nat} (ht : t < 8388608) : FP.Core.val32 (FP.fsub (fb 127 t) FP.fconst1) ≠ .nan := by
  have v1 : FP.Core.val32 FP.fconst1 = .fin false 8388608 (-23) := by decide +kernel
  rw [show FP.fsub (fb 127 t) FP.fconst1 = FP.Core.fsub (fb 127 t) FP.fconst1 from rfl, FP.Core.val32_fsub, fb_v (by decide) (by decide) ht, v1]
  exact FP.Core.roundRatio_ne_nan _ _ _ _ _
theorem fb_s2 {t : Nat} (ht : t < 8388608) : FP.Core.val32 (FP.fmul (FP.fsub (fb 127 t) FP.fconst1) (1258291200 : UInt32)) ≠ .nan := by
  have vk : FP.Core.val32 (1258291200 : UInt32) = .fin false 8388608 0 := by decide +kernel
  have v1 : FP.Core.val32 FP.fconst1 = .fin false 8388608 (-23) := by decide +kernel
  rw [show FP.fmul (FP.fsub (fb 127 t) FP.fconst1) (1258291200 : UInt32) = FP.Core.fmul (FP.fsub (fb 127 t) FP.fconst1) (1258291200 : UInt32) from rfl, FP.Core.val32_fmul, vk]
  rw [show FP.fsub (fb 127 t) FP.fconst1 = FP.Core.fsub (fb 127 t) FP.fconst1 from rfl, FP.Core.val32_fsub, fb_v (by decide) (by decide) ht, v1]
  obtain ⟨c', q', hr, hu⟩ := FP.Core.round_exact FP.Core.good_b32 (FP.Core.sumSign false (!false) (FP.Core.sumUnits false (8388608 + t) (((127 : Nat) : Int) - 150) (!false) 8388608 (-23) (min (((127 : Nat) : Int) - 150) (-23)))) (c := (FP.Core.sumUnits false (8388608 + t) (((127 : Nat) : Int) - 150) (!false) 8388608 (-23) (min (((127 : Nat) : Int) - 150) (-23))).natAbs) (q := min (((127 : Nat) : Int) - 150) (-23)) (by
    have hu : FP.Core.sumUnits false (8388608 + t) (((127 : Nat) : Int) - 150) (!false) 8388608 (-23) (min (((127 : Nat) : Int) - 150) (-23)) = (t : Int) := by
      show FP.Core.signed false (FP.Core.inUnits (8388608 + t) (-23) (-23)) + FP.Core.signed true (FP.Core.inUnits 8388608 (-23) (-23)) = _
      unfold FP.Core.inUnits FP.Core.signed
      simp
      omega
    rw [hu, show (2 : Nat) ^ FP.Core.b32.p = 16777216 by decide]
    omega) (by decide) (by decide)
  show FP.Core.round FP.Core.b32 (FP.Core.exactProduct (FP.Core.round FP.Core.b32 (.fin _ _ _)) _) ≠ .nan
  rw [hr]
  exact FP.Core.roundRatio_ne_nan _ _ _ _ _
theorem cmp_nn {a : UInt32} (h : FP.Core.val32 a ≠ .nan) : FP.fcmp a a = some .eq := FP.Core.fcmp_self h
theorem q_nn {m s : Int64} {M S : Nat} (hm : m.toInt = M) (hs : s.toInt = S) (h0 : 0 < M) (hMS : M ≤ S) (hS : S < 2 ^ 56) : vf_n64 (FP.ddiv (FP.l2d m) (FP.l2d s)) := n64 (by
  obtain ⟨c, q, h1, -⟩ := q_ex hm hs h0 hMS hS
  show FP.Core.decode FP.Core.b64 _ ≠ .nan
  rw [h1]; exact FP.Core.Datum.noConfusion)
/-- the bits of a share -/
def shI (M S : Nat) : Int32 := (FP.d2f (FP.ddiv (FP.l2d (lN M)) (FP.l2d (lN S)))).toInt32
def aShare (m : CM) : Int32 := if aTot m = 0 then -5 else shI (Mx' m.1 m.2.1 m.2.2 m.2.1 6) (aTot m)
theorem lN_ti {a : Nat} (h : a < 2 ^ 63) : (lN a).toInt = (a : Int) := by
  have h1 : (lN a).toBitVec.toNat = a := wb_tn (by omega)
  show (lN a).toBitVec.toInt = _
  rw [BitVec.toInt_eq_toNat_cond, h1, if_pos (by omega)]
