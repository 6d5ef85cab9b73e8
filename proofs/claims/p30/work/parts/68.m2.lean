theorem bp_bp (x : Nat) : bp (bp x) = bp x := by
  by_cases h : 0 < x
  · rw [bp_p h]; rfl
  · rw [bp_n (show x = 0 by omega)]; rfl
theorem lowT_0 (u l : Nat) : lowT u l 0 = lN (u / Nat.gcd u l) := rfl
theorem lowT_1 (u l : Nat) : lowT u l 1 = lN (l / Nat.gcd u l) := rfl
theorem gq_pos {u l : Nat} (hl : 0 < l) : 0 < l / Nat.gcd u l := Nat.div_pos (Nat.le_of_dvd hl (Nat.gcd_dvd_right u l)) (Nat.gcd_pos_of_pos_right u hl)
theorem gq_dd {u l : Nat} (hl : 0 < l) : l / (l / Nat.gcd u l) = Nat.gcd u l := by
  obtain ⟨k, hk⟩ := Nat.gcd_dvd_right u l
  have hg := Nat.gcd_pos_of_pos_right u hl
  have hk0 : 0 < k := Nat.pos_of_ne_zero (fun e => by rw [e, Nat.mul_zero] at hk; omega)
  have e1 : l / Nat.gcd u l = k := Nat.div_eq_of_eq_mul_right hg hk
  rw [e1]
  exact Nat.div_eq_of_eq_mul_left hk0 hk
theorem gq_num {u l : Nat} (hl : 0 < l) : u / Nat.gcd u l * (l / (l / Nat.gcd u l)) = u := by
  rw [gq_dd hl]
  exact Nat.div_mul_cancel (Nat.gcd_dvd_left u l)
theorem gq_mod {u l : Nat} (hl : 0 < l) : l % (l / Nat.gcd u l) = 0 := Nat.mod_eq_zero_of_dvd (Nat.div_dvd_of_dvd (Nat.gcd_dvd_right u l))
theorem gq_gcd {u l : Nat} (hl : 0 < l) : Nat.gcd (u / Nat.gcd u l) (l / Nat.gcd u l) = 1 := by
  have hg := Nat.gcd_pos_of_pos_right u hl
  rw [Nat.gcd_div (Nat.gcd_dvd_left u l) (Nat.gcd_dvd_right u l), Nat.div_self hg]
/-- the law's numbering of weights, by groups: those to begin first -/
def lidx (g k : Nat) : Nat := if g = 0 then 36 + k else if g < 7 then (g - 1) * 6 + k else 42 + (g - 7) * 4 + k
def latx (g k : Nat) : Nat := if g < 7 then 6 * g + k else 42 + 4 * (g - 7) + k
theorem gcd_s2 (a b : Nat) : Nat.gcd b (a % b) = Nat.gcd a b := gcd_s a b
