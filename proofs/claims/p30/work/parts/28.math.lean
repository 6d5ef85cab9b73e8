theorem cut_alg (u0 u1 u2 u3 u6 a0 a1 a2 a3 w00 w01 w02 w03 w04 w05 w10 w11 w12 w13 w14 w15 w20 w21 w22 w23 w24 w25 w30 w31 w32 w33 w34 w35 w40 w41 w42 w43 w45 w50 w51 w52 w53 w60 w61 w62 w63 w64 w65 S5 S4 b4 b5 : Nat)
    (h5 : S5 = w50 * a0 + w51 * a1 + w52 * a2 + w53 * a3) (h4 : S4 = w40 * a0 + w41 * a1 + w42 * a2 + w43 * a3 + w45 * S5)
    (hb4 : b4 = u0 * w04 + u1 * w14 + u2 * w24 + u3 * w34 + u6 * w64) (hb5 : b5 = u0 * w05 + u1 * w15 + u2 * w25 + u3 * w35 + b4 * w45 + u6 * w65) :
    u0 * (w00 * a0 + w01 * a1 + w02 * a2 + w03 * a3 + w04 * S4 + w05 * S5) + u1 * (w10 * a0 + w11 * a1 + w12 * a2 + w13 * a3 + w14 * S4 + w15 * S5) + u2 * (w20 * a0 + w21 * a1 + w22 * a2 + w23 * a3 + w24 * S4 + w25 * S5) + u3 * (w30 * a0 + w31 * a1 + w32 * a2 + w33 * a3 + w34 * S4 + w35 * S5) + u6 * (w60 * a0 + w61 * a1 + w62 * a2 + w63 * a3 + w64 * S4 + w65 * S5)
      = (u0 * w00 + u1 * w10 + u2 * w20 + u3 * w30 + b4 * w40 + b5 * w50 + u6 * w60) * a0 + (u0 * w01 + u1 * w11 + u2 * w21 + u3 * w31 + b4 * w41 + b5 * w51 + u6 * w61) * a1 + (u0 * w02 + u1 * w12 + u2 * w22 + u3 * w32 + b4 * w42 + b5 * w52 + u6 * w62) * a2 + (u0 * w03 + u1 * w13 + u2 * w23 + u3 * w33 + b4 * w43 + b5 * w53 + u6 * w63) * a3 := by
  grind
theorem arr7 (u w : Nat → Nat) (t : Nat) : arrN u w t 7 = u 0 * w (0 * 6 + t) + u 1 * w (1 * 6 + t) + u 2 * w (2 * 6 + t) + u 3 * w (3 * 6 + t) + u 4 * w (4 * 6 + t) + u 5 * w (5 * 6 + t) + u 6 * w (6 * 6 + t) := by
  simp only [arrN, Nat.zero_add]
theorem Sx_ex {w r : Nat → Nat} (hw : Wok w) {K d : Nat} (hd : d < K) (f : Nat) : Sx' w K r (K - d) f = w (f * 6 + 0) * w (42 + 0 * 4 + r d) * Sx' w K r (K - (d + 1)) 0 + w (f * 6 + 1) * w (42 + 1 * 4 + r d) * Sx' w K r (K - (d + 1)) 1 + w (f * 6 + 2) * w (42 + 2 * 4 + r d) * Sx' w K r (K - (d + 1)) 2 + w (f * 6 + 3) * w (42 + 3 * 4 + r d) * Sx' w K r (K - (d + 1)) 3 + w (f * 6 + 4) * Sx' w K r (K - d) 4 + w (f * 6 + 5) * Sx' w K r (K - d) 5 := by
  have h := Ax_succ (op := opS) (z := 0) (e := 1) (r := r) hw d hd f
  rw [foldS_6] at h
  have e : ∀ t, t < 4 → nx t d = d + 1 := fun t ht => if_pos ht
  have e4 : nx 4 d = d := rfl
  have e5 : nx 5 d = d := rfl
  have m : ∀ t, t < 4 → mv w K r f t d = w (f * 6 + t) * w (42 + t * 4 + r d) := fun t ht => by unfold mv; rw [if_neg (by omega), if_pos hd]
  have m4 : mv w K r f 4 d = w (f * 6 + 4) := rfl
  have m5 : mv w K r f 5 d = w (f * 6 + 5) := rfl
  rw [e 0 (by decide), e 1 (by decide), e 2 (by decide), e 3 (by decide), e4, e5, m 0 (by decide), m 1 (by decide), m 2 (by decide), m 3 (by decide), m4, m5] at h
  exact h
/-- what all ways weigh, cut where d letters are told -/
def cutN (w r : Nat → Nat) (K d : Nat) : Nat := uB w r d 0 * Sx' w K r (K - d) 0 + uB w r d 1 * Sx' w K r (K - d) 1 + uB w r d 2 * Sx' w K r (K - d) 2 + uB w r d 3 * Sx' w K r (K - d) 3 + uB w r d 6 * Sx' w K r (K - d) 6
theorem uB_s (w r : Nat → Nat) (d f : Nat) (hf : f < 4) : uB w r (d + 1) f = rchu w (uB w r d) f * w (42 + f * 4 + r d) := by
  show (if f < 4 then _ else 0) = _
  rw [if_pos hf]
theorem uB_s6 (w r : Nat → Nat) (d : Nat) : uB w r (d + 1) 6 = 0 := rfl
theorem b4_ex (w r : Nat → Nat) (d : Nat) : b4 w (uB w r d) = uB w r d 0 * w (0 * 6 + 4) + uB w r d 1 * w (1 * 6 + 4) + uB w r d 2 * w (2 * 6 + 4) + uB w r d 3 * w (3 * 6 + 4) + uB w r d 6 * w (6 * 6 + 4) := by
  unfold b4
  rw [arr7]
  simp only [uB_si w r d 4 (Or.inl rfl), uB_si w r d 5 (Or.inr rfl), Nat.zero_mul, Nat.add_zero]
theorem b5_ex (w r : Nat → Nat) (d : Nat) : b5 w (uB w r d) = uB w r d 0 * w (0 * 6 + 5) + uB w r d 1 * w (1 * 6 + 5) + uB w r d 2 * w (2 * 6 + 5) + uB w r d 3 * w (3 * 6 + 5) + b4 w (uB w r d) * w (4 * 6 + 5) + uB w r d 6 * w (6 * 6 + 5) := by
  unfold b5
  rw [arr7]
  simp only [uB_si w r d 5 (Or.inr rfl)]
  simp
theorem rchu_ex (w r : Nat → Nat) (d t : Nat) : rchu w (uB w r d) t = uB w r d 0 * w (0 * 6 + t) + uB w r d 1 * w (1 * 6 + t) + uB w r d 2 * w (2 * 6 + t) + uB w r d 3 * w (3 * 6 + t) + b4 w (uB w r d) * w (4 * 6 + t) + b5 w (uB w r d) * w (5 * 6 + t) + uB w r d 6 * w (6 * 6 + t) := by
  unfold rchu
  rw [arr7]
  rfl
theorem cut_s {w r : Nat → Nat} (hw : Wok w) {K d : Nat} (hd : d < K) : cutN w r K d = cutN w r K (d + 1) := by
  have x0 := Sx_ex (r := r) hw hd 0
  have x1 := Sx_ex (r := r) hw hd 1
  have x2 := Sx_ex (r := r) hw hd 2
  have x3 := Sx_ex (r := r) hw hd 3
  have x6 := Sx_ex (r := r) hw hd 6
  have x4 := Sx_ex (r := r) hw hd 4
  have x5 := Sx_ex (r := r) hw hd 5
  have z44 : w (4 * 6 + 4) = 0 := hw.2.1
  have z54 : w (5 * 6 + 4) = 0 := hw.2.2.1
  have z55 : w (5 * 6 + 5) = 0 := hw.2.2.2
  rw [z44] at x4
  rw [z54, z55] at x5
  unfold cutN
  rw [uB_s w r d 0 (by decide), uB_s w r d 1 (by decide), uB_s w r d 2 (by decide), uB_s w r d 3 (by decide), uB_s6, show 0 * Sx' w K r (K - (d + 1)) 6 = 0 from Nat.zero_mul _, Nat.add_zero]
  rw [rchu_ex, rchu_ex, rchu_ex, rchu_ex, x0, x1, x2, x3, x6]
  have key := cut_alg (uB w r d 0) (uB w r d 1) (uB w r d 2) (uB w r d 3) (uB w r d 6) (w (42 + 0 * 4 + r d) * Sx' w K r (K - (d + 1)) 0) (w (42 + 1 * 4 + r d) * Sx' w K r (K - (d + 1)) 1) (w (42 + 2 * 4 + r d) * Sx' w K r (K - (d + 1)) 2) (w (42 + 3 * 4 + r d) * Sx' w K r (K - (d + 1)) 3) (w (0 * 6 + 0)) (w (0 * 6 + 1)) (w (0 * 6 + 2)) (w (0 * 6 + 3)) (w (0 * 6 + 4)) (w (0 * 6 + 5)) (w (1 * 6 + 0)) (w (1 * 6 + 1)) (w (1 * 6 + 2)) (w (1 * 6 + 3)) (w (1 * 6 + 4)) (w (1 * 6 + 5)) (w (2 * 6 + 0)) (w (2 * 6 + 1)) (w (2 * 6 + 2)) (w (2 * 6 + 3)) (w (2 * 6 + 4)) (w (2 * 6 + 5)) (w (3 * 6 + 0)) (w (3 * 6 + 1)) (w (3 * 6 + 2)) (w (3 * 6 + 3)) (w (3 * 6 + 4)) (w (3 * 6 + 5)) (w (4 * 6 + 0)) (w (4 * 6 + 1)) (w (4 * 6 + 2)) (w (4 * 6 + 3)) (w (4 * 6 + 5)) (w (5 * 6 + 0)) (w (5 * 6 + 1)) (w (5 * 6 + 2)) (w (5 * 6 + 3)) (w (6 * 6 + 0)) (w (6 * 6 + 1)) (w (6 * 6 + 2)) (w (6 * 6 + 3)) (w (6 * 6 + 4)) (w (6 * 6 + 5)) (Sx' w K r (K - d) 5) (Sx' w K r (K - d) 4) (b4 w (uB w r d)) (b5 w (uB w r d)) (by rw [x5]; simp only [Nat.zero_mul, Nat.add_zero, Nat.mul_assoc]) (by rw [x4]; simp only [Nat.zero_mul, Nat.add_zero, Nat.mul_assoc]) (b4_ex w r d) (b5_ex w r d)
  simp only [Nat.mul_assoc] at key ⊢
  exact key
theorem cut_all {w r : Nat → Nat} (hw : Wok w) {K : Nat} : ∀ d, d ≤ K → cutN w r K d = Sx' w K r K 6
  | 0, _ => by
    unfold cutN
    have : ∀ f, uB w r 0 f = if f = 6 then 1 else 0 := fun _ => rfl
    rw [this, this, this, this, this]
    simp
  | d + 1, h => by rw [← cut_s hw (show d < K by omega)]; exact cut_all hw d (by omega)
theorem Sx_ge {w r : Nat → Nat} (hw : Wok w) {K d : Nat} (hd : d < K) (f : Nat) {t : Nat} (ht : t < 6) : mv w K r f t d * Sx' w K r (K - nx t d) t ≤ Sx' w K r (K - d) f := by
  have h : Sx' w K r (K - d) f = mv w K r f 0 d * Sx' w K r (K - nx 0 d) 0 + mv w K r f 1 d * Sx' w K r (K - nx 1 d) 1 + mv w K r f 2 d * Sx' w K r (K - nx 2 d) 2 + mv w K r f 3 d * Sx' w K r (K - nx 3 d) 3 + mv w K r f 4 d * Sx' w K r (K - nx 4 d) 4 + mv w K r f 5 d * Sx' w K r (K - nx 5 d) 5 := by
    have h := Ax_succ (op := opS) (z := 0) (e := 1) (r := r) hw d hd f
    rw [foldS_6] at h
    exact h
  rw [h]
  have : t = 0 ∨ t = 1 ∨ t = 2 ∨ t = 3 ∨ t = 4 ∨ t = 5 := by omega
  rcases this with rfl | rfl | rfl | rfl | rfl | rfl <;> omega
theorem bF_S {w r : Nat → Nat} (hw : Wok w) {K d : Nat} (hd : d < K) {f : Nat} (hf : f ≤ 6) : bF w (uB w r d) f * Sx' w K r (K - d) f ≤ Sx' w K r K 6 := by
  rw [← cut_all hw d (by omega)]
  have g : ∀ g, w (g * 6 + 4) * Sx' w K r (K - d) 4 + w (g * 6 + 5) * Sx' w K r (K - d) 5 ≤ Sx' w K r (K - d) g := fun g => by rw [Sx_ex hw hd g]; omega
  have g4 := g 4
  have x : ∀ g', uB w r d g' * (w (g' * 6 + 4) * Sx' w K r (K - d) 4) + uB w r d g' * (w (g' * 6 + 5) * Sx' w K r (K - d) 5) ≤ uB w r d g' * Sx' w K r (K - d) g' := fun g' => by rw [← Nat.mul_add]; exact Nat.mul_le_mul_left _ (g g')
  have x0 := x 0
  have x1 := x 1
  have x2 := x 2
  have x3 := x 3
  have x6 := x 6
  by_cases h4 : f = 4
  · subst h4
    have e : bF w (uB w r d) 4 = b4 w (uB w r d) := rfl
    rw [e, b4_ex]
    unfold cutN
    simp only [Nat.add_mul, Nat.mul_assoc]
    omega
  · by_cases h5 : f = 5
    · subst h5
      have e : bF w (uB w r d) 5 = b5 w (uB w r d) := rfl
      have y : ∀ g', uB w r d g' * (w (g' * 6 + 4) * (w (4 * 6 + 5) * Sx' w K r (K - d) 5)) ≤ uB w r d g' * (w (g' * 6 + 4) * Sx' w K r (K - d) 4) := fun g' => Nat.mul_le_mul_left _ (Nat.mul_le_mul_left _ (by omega))
      have y0 := y 0
      have y1 := y 1
      have y2 := y 2
      have y3 := y 3
      have y6 := y 6
      rw [e, b5_ex, b4_ex]
      unfold cutN
      simp only [Nat.add_mul, Nat.mul_assoc]
      omega
    · have e : bF w (uB w r d) f = uB w r d f := by unfold bF; rw [if_neg h5, if_neg h4]
      rw [e]
      unfold cutN
      have : f = 0 ∨ f = 1 ∨ f = 2 ∨ f = 3 ∨ f = 6 := by omega
      rcases this with rfl | rfl | rfl | rfl | rfl <;> omega
theorem stN_b {w r : Nat → Nat} (hw : Wok w) {K f t : Nat} (hf : f ≤ 6) (ht : t < 6) : ∀ d, d ≤ K → stN w r K f t d ≤ d * Sx' w K r K 6
  | 0, _ => Nat.zero_le _
  | d + 1, h => by
    rw [stN_s, Nat.succ_mul]
    have h1 := stN_b (r := r) (K := K) hw hf ht d (by omega)
    have h2 := Nat.mul_le_mul_left (bF w (uB w r d) f) (Sx_ge (r := r) hw (show d < K by omega) f ht)
    have h3 := bF_S (r := r) hw (show d < K by omega) hf
    rw [Nat.mul_assoc]
    omega
theorem thr_b {w r : Nat → Nat} (hw : Wok w) {K p f : Nat} (hp : p < K) (hf : f < 4) : thr w r K p f ≤ Sx' w K r K 6 := by
  rw [← cut_all hw (p + 1) (by omega)]
  unfold thr cutN
  have : f = 0 ∨ f = 1 ∨ f = 2 ∨ f = 3 := by omega
  rcases this with rfl | rfl | rfl | rfl <;> omega
theorem leN_b {w r : Nat → Nat} (hw : Wok w) {K f t : Nat} (hf : f < 4) : ∀ d, d ≤ K → leN w r K f t d ≤ d * Sx' w K r K 6
  | 0, _ => Nat.zero_le _
  | d + 1, h => by
    have h1 := leN_b (r := r) (t := t) (K := K) hw hf d (by omega)
    have h2 := thr_b (r := r) hw (show d < K by omega) hf
    rw [Nat.succ_mul]
    by_cases e : r d = t
    · rw [leN_y e]; omega
    · rw [leN_n e]; omega
theorem exN_b {w r : Nat → Nat} (hw : Wok w) {K : Nat} (hK : K ≤ 6) (j : Nat) : exN w r K j ≤ K * Sx' w K r K 6 := by
  unfold exN
  split
  · exact stN_b hw (by omega) (by omega) K (Nat.le_refl K)
  · split
    · exact leN_b hw (by omega) K (Nat.le_refl K)
    · exact Nat.zero_le _
theorem exN_BB {w r : Nat → Nat} (hw : Wok w) {K : Nat} (hK : K ≤ 6) (j : Nat) : exN w r K j ≤ 1317000000000000000 := by
  have h1 := exN_b (r := r) hw hK j
  have h2 := Sx_b (r := r) hw K K 6 hK
  have h3 := Nat.mul_le_mul hK h2
  omega
