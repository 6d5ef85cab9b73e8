-- what goes into a coin and from it
theorem stN_fb (w r : Nat → Nat) (K f t : Nat) : ∀ d, stN w r K f t d = fb_sm (fun d => bF w (uB w r d) f * mv w K r f t d * Sx' w K r (K - nx t d) t) d
  | 0 => rfl
  | d + 1 => by rw [stN_s, fb_s, stN_fb w r K f t d]
theorem fb7 (g : Nat → Nat) : fb_sm g 7 = g 0 + g 1 + g 2 + g 3 + g 4 + g 5 + g 6 := by simp only [fb_sm, Nat.zero_add]
theorem fb6 (g : Nat → Nat) : fb_sm g 6 = g 0 + g 1 + g 2 + g 3 + g 4 + g 5 := by simp only [fb_sm, Nat.zero_add]
theorem in_l (w r : Nat → Nat) {K d c : Nat} (hd : d < K) (hc : c < 4) : fb_sm (fun f => bF w (uB w r d) f * mv w K r f c d * Sx' w K r (K - nx c d) c) 7 = uB w r (d + 1) c * Sx' w K r (K - (d + 1)) c := by
  have e : ∀ f, mv w K r f c d = w (f * 6 + c) * w (42 + c * 4 + r d) := fun f => by unfold mv; rw [if_neg (by omega), if_pos hd]
  have e2 : nx c d = d + 1 := if_pos hc
  rw [fb_mulr, e2, uB_s w r d c hc]
  congr 1
  unfold rchu
  rw [arr7, fb7, e, e, e, e, e, e, e]
  generalize w (42 + c * 4 + r d) = x
  generalize bF w (uB w r d) = b
  simp only [← Nat.mul_assoc, ← Nat.add_mul]
theorem in_s {w : Nat → Nat} (hw : Wok w) (r : Nat → Nat) {K d c : Nat} (hc : c = 4 ∨ c = 5) : fb_sm (fun f => bF w (uB w r d) f * mv w K r f c d * Sx' w K r (K - nx c d) c) 7 = bF w (uB w r d) c * Sx' w K r (K - d) c := by
  have e : ∀ f, mv w K r f c d = w (f * 6 + c) := fun f => by unfold mv; rw [if_pos (by omega)]
  have e2 : nx c d = d := if_neg (by omega)
  rw [fb_mulr, e2]
  congr 1
  rw [fb7, e, e, e, e, e, e, e]
  have z44 : w (4 * 6 + 4) = 0 := hw.2.1
  have z54 : w (5 * 6 + 4) = 0 := hw.2.2.1
  have z55 : w (5 * 6 + 5) = 0 := hw.2.2.2
  have g4 : bF w (uB w r d) 4 = b4 w (uB w r d) := rfl
  have g5 : bF w (uB w r d) 5 = b5 w (uB w r d) := rfl
  have gf : ∀ f, f ≠ 4 → f ≠ 5 → bF w (uB w r d) f = uB w r d f := fun f h4 h5 => by unfold bF; rw [if_neg h5, if_neg h4]
  rw [gf 0 (by decide) (by decide), gf 1 (by decide) (by decide), gf 2 (by decide) (by decide), gf 3 (by decide) (by decide), gf 6 (by decide) (by decide), g4, g5]
  rcases hc with rfl | rfl
  · rw [z44, z54, b4_ex, g4, b4_ex]; simp only [Nat.mul_zero, Nat.add_zero]
  · rw [z55, g5, b5_ex]; simp only [Nat.mul_zero, Nat.add_zero]
theorem out_f {w r : Nat → Nat} (hw : Wok w) {K d c : Nat} (hd : d < K) : fb_sm (fun b => bF w (uB w r d) c * mv w K r c b d * Sx' w K r (K - nx b d) b) 6 = bF w (uB w r d) c * Sx' w K r (K - d) c := by
  have h := Ax_succ (op := opS) (z := 0) (e := 1) (r := r) hw d hd c
  rw [foldS_6] at h
  have h : Sx' w K r (K - d) c = _ := h
  rw [h, fb6]
  simp only [Nat.mul_add, Nat.mul_assoc]
theorem fb_sh (h : Nat → Nat) : ∀ K, fb_sm (fun d => h (d + 1)) K + h 0 = fb_sm h K + h K
  | 0 => rfl
  | K + 1 => by
    have := fb_sh h K
    rw [fb_s, fb_s]
    omega
theorem ex_in {w r : Nat → Nat} {K c : Nat} (hc : c < 6) : exN w r K (6 * 6 + c) + fb_sm (fun b => exN w r K (b * 6 + c)) 6 = fb_sm (fun d => fb_sm (fun f => bF w (uB w r d) f * mv w K r f c d * Sx' w K r (K - nx c d) c) 7) K := by
  rw [fb_swap, exN_st (by decide) hc, fb_s _ 6, Nat.add_comm]
  congr 1
  · refine fb_cong (fun f hf => ?_)
    rw [exN_st (by omega) hc, stN_fb]
  · rw [stN_fb]
theorem ex_out {w r : Nat → Nat} (hw : Wok w) {K c : Nat} (hc : c ≤ 6) : fb_sm (fun b => exN w r K (c * 6 + b)) 6 = fb_sm (fun d => bF w (uB w r d) c * Sx' w K r (K - d) c) K := by
  have e : fb_sm (fun b => exN w r K (c * 6 + b)) 6 = fb_sm (fun b => fb_sm (fun d => bF w (uB w r d) c * mv w K r c b d * Sx' w K r (K - nx b d) b) K) 6 := fb_cong (fun b hb => by rw [exN_st hc hb, stN_fb])
  rw [e, fb_swap (fun b d => bF w (uB w r d) c * mv w K r c b d * Sx' w K r (K - nx b d) b) K 6]
  exact fb_cong (fun d hd => out_f hw hd)
/-- what ends at a coin -/
def enN (w r : Nat → Nat) (K c : Nat) : Nat := if c < 4 ∧ 0 < K then uB w r K c else 0
theorem flow {w r : Nat → Nat} (hw : Wok w) {K c : Nat} (hc : c < 6) : exN w r K (6 * 6 + c) + fb_sm (fun b => exN w r K (b * 6 + c)) 6 = fb_sm (fun b => exN w r K (c * 6 + b)) 6 + enN w r K c := by
  rw [ex_in hc, ex_out hw (by omega)]
  unfold enN
  by_cases h4 : c < 4
  · have e1 : fb_sm (fun d => fb_sm (fun f => bF w (uB w r d) f * mv w K r f c d * Sx' w K r (K - nx c d) c) 7) K = fb_sm (fun d => (fun d => uB w r d c * Sx' w K r (K - d) c) (d + 1)) K := fb_cong (fun d hd => in_l w r hd h4)
    have e2 : fb_sm (fun d => bF w (uB w r d) c * Sx' w K r (K - d) c) K = fb_sm (fun d => uB w r d c * Sx' w K r (K - d) c) K := fb_cong (fun d hd => by unfold bF; rw [if_neg (by omega), if_neg (by omega)])
    have hs := fb_sh (fun d => uB w r d c * Sx' w K r (K - d) c) K
    have h0 : uB w r 0 c = 0 := by show (if c = 6 then 1 else 0) = 0; rw [if_neg (by omega)]
    have hK : uB w r K c * Sx' w K r (K - K) c = uB w r K c := by rw [Sx_last h4, Nat.mul_one]
    have hs : fb_sm (fun d => uB w r (d + 1) c * Sx' w K r (K - (d + 1)) c) K + uB w r 0 c * Sx' w K r (K - 0) c = fb_sm (fun d => uB w r d c * Sx' w K r (K - d) c) K + uB w r K c * Sx' w K r (K - K) c := hs
    rw [h0, Nat.zero_mul, Nat.add_zero, hK] at hs
    rw [e1, e2]
    by_cases hK0 : 0 < K
    · rw [if_pos ⟨h4, hK0⟩]; exact hs
    · rw [if_neg (fun q => hK0 q.2)]
      have : K = 0 := by omega
      subst this
      rfl
  · rw [if_neg (fun q => h4 q.1), Nat.add_zero]
    exact fb_cong (fun d hd => in_s hw r (by omega))
theorem beg_T {w r : Nat → Nat} (hw : Wok w) {K : Nat} (hK : 0 < K) : fb_sm (fun c => exN w r K (6 * 6 + c)) 6 = Sx' w K r K 6 := by
  rw [ex_out hw (Nat.le_refl 6)]
  obtain ⟨k, rfl⟩ : ∃ k, K = k + 1 := ⟨K - 1, by omega⟩
  have : ∀ m, m ≤ k → fb_sm (fun d => bF w (uB w r d) 6 * Sx' w (k + 1) r (k + 1 - d) 6) (m + 1) = Sx' w (k + 1) r (k + 1) 6 := fun m => by
    induction m with
    | zero => intro _; show 0 + 1 * _ = _; rw [Nat.zero_add, Nat.one_mul]; rfl
    | succ m ih =>
      intro hm
      rw [fb_s, ih (by omega)]
      show _ + uB w r (m + 1) 6 * _ = _
      rw [uB_s6, Nat.zero_mul, Nat.add_zero]
  exact this k (Nat.le_refl k)
theorem beg_0 (w r : Nat → Nat) : fb_sm (fun c => exN w r 0 (6 * 6 + c)) 6 = 0 := by
  rw [show fb_sm (fun c => exN w r 0 (6 * 6 + c)) 6 = fb_sm (fun _ => 0) 6 from fb_cong (fun c hc => exN_st (by decide) hc), fb_z]
theorem thr_T {w r : Nat → Nat} (hw : Wok w) {K d : Nat} (hd : d < K) : fb_sm (fun b => uB w r (d + 1) b * Sx' w K r (K - (d + 1)) b) 4 = Sx' w K r K 6 := by
  rw [← cut_all hw (d + 1) (by omega), fb4]
  unfold cutN
  simp only [uB_s6, Nat.zero_mul, Nat.add_zero]
theorem steps_T {w r : Nat → Nat} (hw : Wok w) {K : Nat} : fb_sm (fun c => fb_sm (fun b => if b < 4 then exN w r K (c * 6 + b) else 0) 6 + (if c < 4 then exN w r K (6 * 6 + c) else 0)) 6 = K * Sx' w K r K 6 := by
  have h : ∀ b, b < 4 → exN w r K (6 * 6 + b) + fb_sm (fun f => exN w r K (f * 6 + b)) 6 = fb_sm (fun d => uB w r (d + 1) b * Sx' w K r (K - (d + 1)) b) K := fun b hb => by
    rw [ex_in (by omega)]
    exact fb_cong (fun d hd => in_l w r hd hb)
  have h2 : fb_sm (fun b => fb_sm (fun d => uB w r (d + 1) b * Sx' w K r (K - (d + 1)) b) K) 4 = K * Sx' w K r K 6 := by
    rw [fb_swap (fun b d => uB w r (d + 1) b * Sx' w K r (K - (d + 1)) b) K 4, ← fb_k]
    exact fb_cong (fun d hd => thr_T hw hd)
  rw [← h2, show fb_sm (fun b => fb_sm (fun d => uB w r (d + 1) b * Sx' w K r (K - (d + 1)) b) K) 4 = fb_sm (fun b => exN w r K (6 * 6 + b) + fb_sm (fun f => exN w r K (f * 6 + b)) 6) 4 from fb_cong (fun b hb => (h b hb).symm)]
  simp only [fb4, fb6]
  simp only [show (0:Nat) < 4 by decide, show (1:Nat) < 4 by decide, show (2:Nat) < 4 by decide, show (3:Nat) < 4 by decide, show ¬ (4:Nat) < 4 by decide, show ¬ (5:Nat) < 4 by decide, if_true, if_false]
  omega
