-- how many weights are above nought
theorem cntW_fb (w : Nat → Nat) : ∀ n, cntW w n = fb_sm (fun i => bp (w i)) n
  | 0 => rfl
  | n + 1 => by
    rw [fb_s, ← cntW_fb w n]
    show (if w n = 0 then cntW w n else cntW w n + 1) = _
    by_cases h : w n = 0
    · rw [if_pos h, bp_n h]; rfl
    · rw [if_neg h, bp_p (by omega)]
def CW (w : Nat → Nat) : Nat → Nat := fb_sm (fun c => bp (w (6 * 6 + c)) + fb_sm (fun b => bp (w (c * 6 + b)) + (if c < 4 ∧ b < 4 then bp (w (42 + c * 4 + b)) else 0)) 6)
theorem CW_6 (w : Nat → Nat) : cntW w 58 = CW w 6 := by
  rw [cntW_fb]
  unfold CW
  simp only [fb_sm, Nat.zero_add, show (0:Nat) < 4 by decide, show (1:Nat) < 4 by decide, show (2:Nat) < 4 by decide, show (3:Nat) < 4 by decide, show ¬ (4:Nat) < 4 by decide, show ¬ (5:Nat) < 4 by decide, and_self, and_true, and_false, true_and, false_and, if_true, if_false, Nat.add_zero, Nat.reduceMul, Nat.reduceAdd]
  omega
-- training, as the law counts it
def gz (g : Nat) : Nat := if g < 7 then 6 else 4
def gm (E : Nat → Nat) (g : Nat) : Nat → Nat
  | 0 => 0
  | k + 1 => max (gm E g k) (E (lidx g k))
theorem gm_le {E : Nat → Nat} {B : Nat} (h : ∀ j, E j ≤ B) (g : Nat) : ∀ k, gm E g k ≤ B
  | 0 => Nat.zero_le _
  | k + 1 => Nat.max_le.mpr ⟨gm_le h g k, h _⟩
theorem gm_ge (E : Nat → Nat) (g : Nat) {i : Nat} : ∀ k, i < k → E (lidx g i) ≤ gm E g k
  | 0, h => absurd h (Nat.not_lt_zero _)
  | k + 1, h => by
    by_cases e : i = k
    · rw [e]; exact Nat.le_max_right _ _
    · exact Nat.le_trans (gm_ge E g k (by omega)) (Nat.le_max_left _ _)
theorem lidx_b (g k : Nat) : lidx g k = lidx g 0 + k := by unfold lidx; split <;> (try split) <;> omega
theorem lidx_lt {g k : Nat} (hg : g < 11) (hk : k < gz g) : lidx g k < 58 := by unfold gz at hk; unfold lidx; split at hk <;> split <;> (try split) <;> omega
theorem gm_gx (E : Nat → Nat) (g : Nat) : ∀ k, gm E g k = gx E (lidx g 0) k
  | 0 => rfl
  | k + 1 => by
    show max _ _ = max _ _
    rw [gm_gx E g k, lidx_b g k]
theorem lidx_g {g k : Nat} (hg : g < 11) (hk : k < gz g) : gfst (lidx g k) = lidx g 0 ∧ gsz (lidx g k) = gz g := by
  unfold gz at hk ⊢
  unfold gfst gsz lidx
  by_cases h0 : g = 0
  · subst h0
    simp only [if_true, show (0:Nat) < 7 by decide] at hk ⊢
    rw [if_pos (by omega), if_pos (by omega)]
    omega
  · by_cases h7 : g < 7
    · rw [if_pos h7] at hk
      simp only [if_neg h0, if_pos h7]
      rw [if_pos (by omega), if_pos (by omega)]
      omega
    · rw [if_neg h7] at hk
      simp only [if_neg h0, if_neg h7]
      rw [if_neg (by omega), if_neg (by omega)]
      omega
theorem tnew_l {E w : Nat → Nat} {g k : Nat} (hg : g < 11) (hk : k < gz g) : tnew E w (lidx g k) = if gm E g (gz g) = 0 then w (lidx g k) else tr1 (E (lidx g k)) (gm E g (gz g)) := by
  unfold tnew tg
  rw [(lidx_g hg hk).1, (lidx_g hg hk).2, ← gm_gx]
theorem tr_q {x m : Nat} (hm : 0 < m) : tr1 x m = 3 * x / m + (if m ≤ 2 * (3 * x - 3 * x / m * m) then 1 else 0) := by
  unfold tr1
  have h1 := Nat.div_add_mod (3 * x) m
  have h2 := Nat.mod_lt (3 * x) hm
  generalize hq : 3 * x / m = q at *
  generalize hr : 3 * x % m = r at *
  have e1 : 3 * x - q * m = r := by rw [Nat.mul_comm q m]; omega
  rw [e1]
  have e2 : 6 * x + m = 2 * m * q + (2 * r + m) := by
    have : 2 * m * q = 2 * (m * q) := Nat.mul_assoc 2 m q
    omega
  rw [e2, Nat.mul_add_div (by omega)]
  congr 1
  by_cases h : m ≤ 2 * r
  · rw [if_pos h, Nat.div_eq_of_lt_le (k := 1) (by omega) (by omega)]
  · rw [if_neg h, Nat.div_eq_of_lt (by omega)]
theorem q3_le {x m : Nat} (hm : 0 < m) (h : x ≤ m) : 3 * x / m ≤ 3 := by
  have : 3 * x / m ≤ 3 * m / m := Nat.div_le_div_right (by omega)
  rw [Nat.mul_div_cancel 3 hm] at this
  exact this
theorem q3_m (x m : Nat) : 3 * x / m * m ≤ 3 * x := Nat.div_mul_le_self _ _
theorem q3_r {x m : Nat} (hm : 0 < m) : 3 * x - 3 * x / m * m < m := by
  have h1 := Nat.div_add_mod (3 * x) m
  have h2 := Nat.mod_lt (3 * x) hm
  rw [Nat.mul_comm] at h1
  omega
/-- how many change in a group, in the groups so far -/
def df (E w : Nat → Nat) (g : Nat) : Nat → Nat := fb_sm (fun k => if tnew E w (lidx g k) = w (lidx g k) then 0 else 1)
def DF (E w : Nat → Nat) : Nat → Nat := fb_sm (fun g => df E w g (gz g))
theorem cntF_fb (u v : Nat → Nat) (a : Nat) : ∀ n, cntF u v a n = fb_sm (fun i => if u (a + i) = v (a + i) then 0 else 1) n
  | 0 => rfl
  | n + 1 => by show cntF u v a n + _ = _; rw [cntF_fb u v a n]; rfl
theorem df_c (E w : Nat → Nat) (g n : Nat) : df E w g n = cntF w (tnew E w) (lidx g 0) n := by
  rw [cntF_fb]
  unfold df
  refine fb_cong (fun k _ => ?_)
  rw [lidx_b g k]
  by_cases h : tnew E w (lidx g 0 + k) = w (lidx g 0 + k)
  · rw [if_pos h, if_pos h.symm]
  · rw [if_neg h, if_neg (fun q => h q.symm)]
theorem DF_11 (E w : Nat → Nat) : cntF w (tnew E w) 0 58 = DF E w 11 := by
  have e : ∀ a m n, cntF w (tnew E w) a (m + n) = cntF w (tnew E w) a m + cntF w (tnew E w) (a + m) n := fun a m n => cntF_add w (tnew E w) a m n
  unfold DF
  simp only [fb_sm, df_c, Nat.zero_add]
  show cntF w (tnew E w) 0 (6 + (6 + (6 + (6 + (6 + (6 + (6 + (4 + (4 + (4 + 4)))))))))) = cntF w (tnew E w) 36 6 + cntF w (tnew E w) 0 6 + cntF w (tnew E w) 6 6 + cntF w (tnew E w) 12 6 + cntF w (tnew E w) 18 6 + cntF w (tnew E w) 24 6 + cntF w (tnew E w) 30 6 + cntF w (tnew E w) 42 4 + cntF w (tnew E w) 46 4 + cntF w (tnew E w) 50 4 + cntF w (tnew E w) 54 4
  rw [e 0 6, e (0 + 6) 6, e (0 + 6 + 6) 6, e (0 + 6 + 6 + 6) 6, e (0 + 6 + 6 + 6 + 6) 6, e (0 + 6 + 6 + 6 + 6 + 6) 6, e (0 + 6 + 6 + 6 + 6 + 6 + 6) 6, e (0 + 6 + 6 + 6 + 6 + 6 + 6 + 6) 4, e (0 + 6 + 6 + 6 + 6 + 6 + 6 + 6 + 4) 4, e (0 + 6 + 6 + 6 + 6 + 6 + 6 + 6 + 4 + 4) 4]
  show cntF w (tnew E w) 0 6 + (cntF w (tnew E w) 6 6 + (cntF w (tnew E w) 12 6 + (cntF w (tnew E w) 18 6 + (cntF w (tnew E w) 24 6 + (cntF w (tnew E w) 30 6 + (cntF w (tnew E w) 36 6 + (cntF w (tnew E w) 42 4 + (cntF w (tnew E w) 46 4 + (cntF w (tnew E w) 50 4 + cntF w (tnew E w) 54 4))))))))) = _
  omega
theorem latx_lt {g k : Nat} (hg : g < 11) (hk : k < gz g) : latx g k < 64 := by unfold gz at hk; unfold latx; split at hk <;> split <;> omega
theorem latx_inj {g k g' k' : Nat} (hg : g < 11) (hk : k < gz g) (hg' : g' < 11) (hk' : k' < gz g') (h : latx g k = latx g' k') : g = g' ∧ k = k' := by
  unfold gz at hk hk'
  unfold latx at h
  split at hk <;> split at hk' <;> simp_all <;> omega
/-- what the law has laid of the new weights -/
def ThC (E w : Nat → Nat) (g k : Nat) (row : Nat → Int32) : Prop := ∀ a x, (a < g ∨ (a = g ∧ x < k)) → a < 11 → x < gz a → row (latx a x) = nI (tnew E w (lidx a x))
theorem ThC_0 (E w : Nat → Nat) (row : Nat → Int32) : ThC E w 0 0 row := fun a x h _ _ => by omega
theorem thc {E w : Nat → Nat} {g k : Nat} {r1 r2 : Nat → Int32} (h : r2 = r1) (h1 : ThC E w g k r1) : ThC E w g k r2 := by rw [h]; exact h1
theorem ThC_s {E w : Nat → Nat} {g k : Nat} {I : Ic} (h : ThC E w g k (I 74)) (hg : g < 11) (hk : k < gz g) : ThC E w g (k + 1) (up2 I 74 (latx g k) (nI (tnew E w (lidx g k))) 74) := fun a x h1 h2 h3 => by
  rw [up2_at]
  by_cases e : latx a x = latx g k
  · have e2 := latx_inj h2 h3 hg hk e
    rw [if_pos ⟨rfl, e⟩, e2.1, e2.2]
  · rw [if_neg (fun z => e z.2)]
    refine h a x ?_ h2 h3
    rcases h1 with h1 | h1
    · exact Or.inl h1
    · by_cases ex : x = k
      · exact absurd (by rw [h1.1, ex]) e
      · exact Or.inr ⟨h1.1, by omega⟩
theorem ThC_n {E w : Nat → Nat} {g k : Nat} {row : Nat → Int32} (h : ThC E w g k row) (hk : gz g ≤ k) : ThC E w (g + 1) 0 row := fun a x h1 h2 h3 => h a x (by
  by_cases e : a = g
  · subst e; right; exact ⟨rfl, by omega⟩
  · left; omega) h2 h3
