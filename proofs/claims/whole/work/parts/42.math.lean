def suB (w r : Nat → Nat) (d : Nat) : Nat := uB w r d 0 + uB w r d 1 + uB w r d 2 + uB w r d 3 + uB w r d 6
theorem m3 {a b : Nat} (h : b ≤ 3) : a * b ≤ 3 * a := by rw [Nat.mul_comm 3]; exact Nat.mul_le_mul_left a h
theorem b4_b {w : Nat → Nat} (hw : Wok w) (r : Nat → Nat) (d : Nat) : b4 w (uB w r d) ≤ 3 * suB w r d := by
  rw [b4_ex]
  have x0 := m3 (a := uB w r d 0) (hw.1 (0 * 6 + 4))
  have x1 := m3 (a := uB w r d 1) (hw.1 (1 * 6 + 4))
  have x2 := m3 (a := uB w r d 2) (hw.1 (2 * 6 + 4))
  have x3 := m3 (a := uB w r d 3) (hw.1 (3 * 6 + 4))
  have x6 := m3 (a := uB w r d 6) (hw.1 (6 * 6 + 4))
  unfold suB
  omega
theorem b5_b {w : Nat → Nat} (hw : Wok w) (r : Nat → Nat) (d : Nat) : b5 w (uB w r d) ≤ 12 * suB w r d := by
  rw [b5_ex]
  have x0 := m3 (a := uB w r d 0) (hw.1 (0 * 6 + 5))
  have x1 := m3 (a := uB w r d 1) (hw.1 (1 * 6 + 5))
  have x2 := m3 (a := uB w r d 2) (hw.1 (2 * 6 + 5))
  have x3 := m3 (a := uB w r d 3) (hw.1 (3 * 6 + 5))
  have x6 := m3 (a := uB w r d 6) (hw.1 (6 * 6 + 5))
  have x4 := m3 (a := b4 w (uB w r d)) (hw.1 (4 * 6 + 5))
  have h4 := b4_b hw r d
  unfold suB at *
  omega
theorem rchu_b {w : Nat → Nat} (hw : Wok w) (r : Nat → Nat) (d t : Nat) : rchu w (uB w r d) t ≤ 48 * suB w r d := by
  rw [rchu_ex]
  have x0 := m3 (a := uB w r d 0) (hw.1 (0 * 6 + t))
  have x1 := m3 (a := uB w r d 1) (hw.1 (1 * 6 + t))
  have x2 := m3 (a := uB w r d 2) (hw.1 (2 * 6 + t))
  have x3 := m3 (a := uB w r d 3) (hw.1 (3 * 6 + t))
  have x6 := m3 (a := uB w r d 6) (hw.1 (6 * 6 + t))
  have x4 := m3 (a := b4 w (uB w r d)) (hw.1 (4 * 6 + t))
  have x5 := m3 (a := b5 w (uB w r d)) (hw.1 (5 * 6 + t))
  have h4 := b4_b hw r d
  have h5 := b5_b hw r d
  unfold suB at *
  omega
theorem suB_b {w : Nat → Nat} (hw : Wok w) (r : Nat → Nat) : ∀ d, suB w r d ≤ 576 ^ d
  | 0 => by
    unfold suB
    have : ∀ f, uB w r 0 f = if f = 6 then 1 else 0 := fun _ => rfl
    rw [this, this, this, this, this]
    decide
  | d + 1 => by
    have ih := suB_b hw r d
    have h : ∀ t, t < 4 → uB w r (d + 1) t ≤ 144 * suB w r d := fun t ht => by
      rw [uB_s w r d t ht]
      have x := m3 (a := rchu w (uB w r d) t) (hw.1 (42 + t * 4 + r d))
      have y := rchu_b hw r d t
      omega
    have h0 := h 0 (by decide)
    have h1 := h 1 (by decide)
    have h2 := h 2 (by decide)
    have h3 := h 3 (by decide)
    have h6 : uB w r (d + 1) 6 = 0 := rfl
    rw [Nat.pow_succ]
    show uB w r (d + 1) 0 + uB w r (d + 1) 1 + uB w r (d + 1) 2 + uB w r (d + 1) 3 + uB w r (d + 1) 6 ≤ _
    omega
theorem bF_b {w : Nat → Nat} (hw : Wok w) (r : Nat → Nat) {d f : Nat} (hd : d ≤ 6) (hf : f < 6) : bF w (uB w r d) f ≤ 438244169232678912 := by
  have h := suB_b hw r d
  have hp := pow576 hd
  have h4 := b4_b hw r d
  have h5 := b5_b hw r d
  unfold bF
  by_cases e5 : f = 5
  · rw [if_pos e5]; omega
  · rw [if_neg e5]
    by_cases e4 : f = 4
    · rw [if_pos e4]; omega
    · rw [if_neg e4]
      have : f = 0 ∨ f = 1 ∨ f = 2 ∨ f = 3 := by omega
      unfold suB at *
      rcases this with rfl | rfl | rfl | rfl <;> omega
/-- what is laid ahead of a coin in the end, and while it grows -/
def Ah (w r : Nat → Nat) (K d t : Nat) : Nat := if d ≤ K then bF w (uB w r d) t else 0
def Pd (w r : Nat → Nat) (d i t : Nat) : Nat := (if d = 0 then w (6 * 6 + t) else 0) + arrN (bF w (uB w r d)) w t i
theorem Pd_s (w r : Nat → Nat) (d i t : Nat) : Pd w r d (i + 1) t = Pd w r d i t + bF w (uB w r d) i * w (i * 6 + t) := by
  unfold Pd
  show _ + (arrN _ w t i + _) = _
  omega
theorem Pd_6 (w r : Nat → Nat) (d t : Nat) : Pd w r d 6 t = rchu w (uB w r d) t := by
  have e6 : bF w (uB w r d) 6 = if d = 0 then 1 else 0 := by
    show uB w r d 6 = _
    cases d with
    | zero => rfl
    | succ d => rfl
  unfold Pd rchu
  show _ = arrN (bF w (uB w r d)) w t 6 + bF w (uB w r d) 6 * w (6 * 6 + t)
  rw [e6]
  by_cases h : d = 0
  · rw [if_pos h, if_pos h]; omega
  · rw [if_neg h, if_neg h]; omega
theorem u6_ex (w r : Nat → Nat) (d t : Nat) : (if d = 0 then w (6 * 6 + t) else 0) = uB w r d 6 * w (6 * 6 + t) := by
  cases d with
  | zero => rw [if_pos rfl]; show _ = 1 * _; omega
  | succ d => rw [if_neg (by omega), uB_s6, Nat.zero_mul]
theorem Pd_4 (w r : Nat → Nat) (d : Nat) : Pd w r d 4 4 = bF w (uB w r d) 4 := by
  have e : bF w (uB w r d) 4 = b4 w (uB w r d) := rfl
  rw [e, b4_ex]
  unfold Pd
  rw [u6_ex w r d 4]
  simp only [arrN, bF]
  simp
  omega
theorem Pd_5 (w r : Nat → Nat) (d : Nat) : Pd w r d 5 5 = bF w (uB w r d) 5 := by
  have e : bF w (uB w r d) 5 = b5 w (uB w r d) := rfl
  rw [e, b5_ex]
  unfold Pd
  rw [u6_ex w r d 5]
  simp only [arrN, bF]
  simp
  omega
theorem Pd_m {w : Nat → Nat} (hw : Wok w) (r : Nat → Nat) (d : Nat) {i t : Nat} (h : (i = 4 ∧ t = 4) ∨ (i = 5 ∧ t = 4) ∨ (i = 5 ∧ t = 5)) : Pd w r d (i + 1) t = Pd w r d i t := by
  rw [Pd_s]
  have z44 : w (4 * 6 + 4) = 0 := hw.2.1
  have z54 : w (5 * 6 + 4) = 0 := hw.2.2.1
  have z55 : w (5 * 6 + 5) = 0 := hw.2.2.2
  rcases h with ⟨rfl, rfl⟩ | ⟨rfl, rfl⟩ | ⟨rfl, rfl⟩
  · rw [z44]; omega
  · rw [z54]; omega
  · rw [z55]; omega
/-- laid ahead: d letters told, for each coin t what c t coins give it -/
def AS (w r : Nat → Nat) (K : Nat) (L : Lc) (d : Nat) (c : Nat → Nat) : Prop :=
  (∀ t d', t < 4 → d' ≤ d → d' ≤ 6 → L 77 (7 * t + d') = lN (Ah w r K d' t)) ∧ (∀ t d', 4 ≤ t → t < 6 → d' < d → d' ≤ 6 → L 77 (7 * t + d') = lN (Ah w r K d' t)) ∧
  (∀ t, 4 ≤ t → t < 6 → d ≤ 6 → L 77 (7 * t + d) = lN (if d ≤ K then Pd w r d (c t) t else 0)) ∧ (∀ t, t < 4 → d + 1 ≤ 6 → L 77 (7 * t + (d + 1)) = lN (if d < K then Pd w r d (c t) t * w (42 + t * 4 + r d) else 0)) ∧
  (∀ t d', t < 4 → d + 1 < d' → d' ≤ 6 → L 77 (7 * t + d') = lN 0) ∧ ∀ t d', 4 ≤ t → t < 6 → d < d' → d' ≤ 6 → L 77 (7 * t + d') = lN 0
theorem AS_n {w r : Nat → Nat} {K : Nat} {L : Lc} {d : Nat} (hw : Wok w) (h : AS w r K L d (fun _ => 6)) (hd : d < 7) : AS w r K L (d + 1) (fun _ => 0) := by
  obtain ⟨h1, h2, h3, h4, h5, h6⟩ := h
  refine ⟨fun t d' ht hd' h6' => ?_, fun t d' h4' ht hd' h6' => ?_, fun t h4' ht h6' => ?_, fun t ht h6' => ?_, fun t d' ht hd' h6' => h5 t d' ht (by omega) h6', fun t d' h4' ht hd' h6' => h6 t d' h4' ht (by omega) h6'⟩
  · by_cases e : d' = d + 1
    · subst e
      rw [h4 t ht h6']
      unfold Ah
      by_cases e2 : d < K
      · rw [if_pos e2, if_pos (by omega), bF_lo ht, uB_s w r d t ht]
        show lN (Pd w r d 6 t * _) = _
        rw [Pd_6]
      · rw [if_neg e2, if_neg (by omega)]
    · exact h1 t d' ht (by omega) h6'
  · by_cases e : d' = d
    · subst e
      rw [h3 t h4' ht h6']
      unfold Ah
      by_cases e2 : d' ≤ K
      · rw [if_pos e2, if_pos e2]
        show lN (Pd w r d' 6 t) = _
        have h45 : t = 4 ∨ t = 5 := by omega
        rcases h45 with rfl | rfl
        · rw [Pd_m hw r d' (Or.inr (Or.inl ⟨rfl, rfl⟩)), Pd_m hw r d' (Or.inl ⟨rfl, rfl⟩), Pd_4]
        · rw [Pd_m hw r d' (Or.inr (Or.inr ⟨rfl, rfl⟩)), Pd_5]
      · rw [if_neg e2, if_neg e2]
    · exact h2 t d' h4' ht (by omega) h6'
  · rw [h6 t (d + 1) h4' ht (by omega) h6']
    have : Pd w r (d + 1) 0 t = 0 := by unfold Pd; rw [if_neg (by omega)]; rfl
    show lN 0 = lN (if d + 1 ≤ K then Pd w r (d + 1) 0 t else 0)
    rw [this]; split <;> rfl
  · rw [h5 t (d + 1 + 1) ht (by omega) h6']
    have : Pd w r (d + 1) 0 t = 0 := by unfold Pd; rw [if_neg (by omega)]; rfl
    show lN 0 = lN (if d + 1 < K then Pd w r (d + 1) 0 t * _ else 0)
    rw [this, Nat.zero_mul]; split <;> rfl
