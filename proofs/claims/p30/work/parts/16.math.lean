def gx (E : Nat → Nat) (a : Nat) : Nat → Nat
  | 0 => 0
  | m + 1 => max (gx E a m) (E (a + m))
def tr1 (x g : Nat) : Nat := (6 * x + g) / (2 * g)
def tg (E v : Nat → Nat) (a z : Nat) (j : Nat) : Nat := if gx E a z = 0 then v j else tr1 (E j) (gx E a z)
def cntF (u v : Nat → Nat) (a : Nat) : Nat → Nat
  | 0 => 0
  | m + 1 => cntF u v a m + if u (a + m) = v (a + m) then 0 else 1
def mixA (v t : Nat → Nat) (a b : Nat) : Nat → Nat := fun j => if a ≤ j ∧ j < b then t j else v j
def wI (I : Ic) (v : Nat → Nat) : Ic := fun b => if b = 2 then (fun j => if j < 58 then nI (v j) else I 2 j) else I b
theorem wI_at {I : Ic} {v : Nat → Nat} {j : Nat} (h : j < 58) : wI I v 2 j = nI (v j) := by
  show (if 2 = 2 then _ else _ : Nat → Int32) j = _
  rw [if_pos rfl, if_pos h]
theorem wI_ne {I : Ic} {v : Nat → Nat} {b : Nat} (h : b ≠ 2) : wI I v b = I b := if_neg h
theorem wI_self {I : Ic} {w : Nat → Nat} (h : ∀ i, i < 58 → I 2 i = nI (w i)) : wI I w = I := by
  funext b
  by_cases hb : b = 2
  · subst hb
    funext j
    by_cases hj : j < 58
    · rw [wI_at hj, h j hj]
    · show (if 2 = 2 then _ else _ : Nat → Int32) j = _
      rw [if_pos rfl, if_neg hj]
  · exact wI_ne hb
theorem wI_up {I : Ic} {v : Nat → Nat} {i x : Nat} (hi : i < 58) : up2 (wI I v) 2 i (nI x) = wI I (fun j => if j = i then x else v j) := by
  funext b
  by_cases hb : b = 2
  · subst hb
    funext j
    rw [up2_at]
    by_cases hj : j < 58
    · rw [wI_at hj]
      by_cases e : j = i
      · rw [if_pos ⟨rfl, e⟩, wI_at hj, if_pos e]
      · rw [if_neg (fun q => e q.2), wI_at hj, if_neg e]
    · rw [if_neg (by omega)]
      show (if 2 = 2 then _ else _ : Nat → Int32) j = (if 2 = 2 then _ else _ : Nat → Int32) j
      rw [if_pos rfl, if_pos rfl, if_neg hj, if_neg hj]
  · rw [up2_ne hb, wI_ne hb, wI_ne hb]
theorem mixA_0 (v t : Nat → Nat) (a : Nat) : mixA v t a a = v := by
  funext j; unfold mixA; rw [if_neg (by omega)]
theorem mixA_s (v t : Nat → Nat) (a m : Nat) : (fun j => if j = a + m then t (a + m) else mixA v t a (a + m) j) = mixA v t a (a + (m + 1)) := by
  funext j
  unfold mixA
  by_cases e : j = a + m
  · rw [if_pos e, if_pos (by omega), e]
  · rw [if_neg e]
    by_cases h : a ≤ j ∧ j < a + m
    · rw [if_pos h, if_pos (by omega)]
    · rw [if_neg h, if_neg (by omega)]
theorem mixA_n {v t : Nat → Nat} {a m : Nat} (h : t (a + m) = v (a + m)) : mixA v t a (a + (m + 1)) = mixA v t a (a + m) := by
  funext j
  unfold mixA
  by_cases e : j = a + m
  · rw [if_pos (by omega), if_neg (by omega), e, h]
  · by_cases h : a ≤ j ∧ j < a + m
    · rw [if_pos h, if_pos (by omega)]
    · rw [if_neg h, if_neg (by omega)]
theorem mixA_at (v t : Nat → Nat) (a m : Nat) : mixA v t a (a + m) (a + m) = v (a + m) := by unfold mixA; rw [if_neg (by omega)]
theorem gx_le {E : Nat → Nat} {B a : Nat} : ∀ {m : Nat}, (∀ i, i < m → E (a + i) ≤ B) → gx E a m ≤ B
  | 0, _ => Nat.zero_le B
  | m + 1, h => by
    have h1 := gx_le (m := m) (fun i hi => h i (by omega))
    have h2 := h m (by omega)
    show max (gx E a m) (E (a + m)) ≤ B
    omega
theorem gx_ge (E : Nat → Nat) (a : Nat) : ∀ {m i : Nat}, i < m → E (a + i) ≤ gx E a m
  | 0, i, h => absurd h (Nat.not_lt_zero i)
  | m + 1, i, h => by
    show _ ≤ max (gx E a m) (E (a + m))
    by_cases e : i = m
    · rw [e]; exact Nat.le_max_right _ _
    · exact Nat.le_trans (gx_ge E a (show i < m by omega)) (Nat.le_max_left _ _)
theorem tr1_le {x g : Nat} (hg : 0 < g) (h : x ≤ g) : tr1 x g ≤ 3 := by
  unfold tr1
  have : 6 * x + g < 4 * (2 * g) := by omega
  have := (Nat.div_lt_iff_lt_mul (show 0 < 2 * g by omega)).mpr this
  omega
theorem tr1_0 (g : Nat) : tr1 0 g = 0 := by
  unfold tr1
  by_cases h : g = 0
  · subst h; rfl
  · exact Nat.div_eq_of_lt (by omega)
theorem cntF_y {u v : Nat → Nat} {a m : Nat} (h : u (a + m) = v (a + m)) : cntF u v a (m + 1) = cntF u v a m := by show cntF u v a m + _ = _; rw [if_pos h]; rfl
theorem cntF_n {u v : Nat → Nat} {a m : Nat} (h : ¬ u (a + m) = v (a + m)) : cntF u v a (m + 1) = cntF u v a m + 1 := by show cntF u v a m + _ = _; rw [if_neg h]
theorem cntF_le (u v : Nat → Nat) (a : Nat) : ∀ m, cntF u v a m ≤ m
  | 0 => Nat.le_refl 0
  | m + 1 => by
    have := cntF_le u v a m
    show cntF u v a m + _ ≤ _
    split <;> omega
theorem cntF_cong {u v u' v' : Nat → Nat} {a : Nat} : ∀ {m : Nat}, (∀ i, i < m → (u (a + i) = v (a + i) ↔ u' (a + i) = v' (a + i))) → cntF u v a m = cntF u' v' a m
  | 0, _ => rfl
  | m + 1, h => by
    show cntF u v a m + _ = cntF u' v' a m + _
    rw [cntF_cong (fun i hi => h i (by omega))]
    by_cases e : u (a + m) = v (a + m)
    · rw [if_pos e, if_pos ((h m (by omega)).mp e)]
    · rw [if_neg e, if_neg (fun q => e ((h m (by omega)).mpr q))]
theorem cntF_add (u v : Nat → Nat) (a m : Nat) : ∀ n, cntF u v a (m + n) = cntF u v a m + cntF u v (a + m) n
  | 0 => rfl
  | n + 1 => by
    show cntF u v a (m + n) + (if u (a + (m + n)) = v (a + (m + n)) then 0 else 1) = cntF u v a m + (cntF u v (a + m) n + (if u (a + m + n) = v (a + m + n) then 0 else 1))
    rw [cntF_add u v a m n, Nat.add_assoc, show a + (m + n) = a + m + n by omega]
/-- all groups' numbers -/
def exN (w r : Nat → Nat) (K : Nat) (j : Nat) : Nat := if j < 42 then stN w r K (j / 6) (j % 6) K else if j < 58 then leN w r K ((j - 42) / 4) ((j - 42) % 4) K else 0
def gfst (j : Nat) : Nat := if j < 42 then j / 6 * 6 else 42 + (j - 42) / 4 * 4
def gsz (j : Nat) : Nat := if j < 42 then 6 else 4
def tnew (E w : Nat → Nat) (j : Nat) : Nat := tg E w (gfst j) (gsz j) j
theorem exN_st {w r : Nat → Nat} {K f t : Nat} (hf : f ≤ 6) (ht : t < 6) : exN w r K (f * 6 + t) = stN w r K f t K := by
  unfold exN
  rw [if_pos (by omega), show (f * 6 + t) / 6 = f by omega, show (f * 6 + t) % 6 = t by omega]
theorem exN_le {w r : Nat → Nat} {K f t : Nat} (hf : f < 4) (ht : t < 4) : exN w r K (42 + f * 4 + t) = leN w r K f t K := by
  unfold exN
  rw [if_neg (by omega), if_pos (by omega), show (42 + f * 4 + t - 42) / 4 = f by omega, show (42 + f * 4 + t - 42) % 4 = t by omega]
theorem tg_cong {E v v' : Nat → Nat} {a z j : Nat} (h : v j = v' j) : tg E v a z j = tg E v' a z j := by unfold tg; rw [h]
/-- a group, behind those ahead of it -/
theorem grp_s {E w : Nat → Nat} {a z : Nat} (hg : ∀ j, a ≤ j → j < a + z → gfst j = a ∧ gsz j = z) : mixA (mixA w (tnew E w) 0 a) (tg E (mixA w (tnew E w) 0 a) a z) a (a + z) = mixA w (tnew E w) 0 (a + z) := by
  funext j
  have e1 : mixA w (tnew E w) 0 a = fun j => if 0 ≤ j ∧ j < a then tnew E w j else w j := rfl
  by_cases h : a ≤ j ∧ j < a + z
  · have h1 : mixA (mixA w (tnew E w) 0 a) (tg E (mixA w (tnew E w) 0 a) a z) a (a + z) j = tg E (mixA w (tnew E w) 0 a) a z j := if_pos h
    have h2 : mixA w (tnew E w) 0 (a + z) j = tnew E w j := if_pos (by omega)
    have h3 : mixA w (tnew E w) 0 a j = w j := if_neg (by omega)
    rw [h1, h2, tg_cong h3]
    unfold tnew
    rw [(hg j h.1 h.2).1, (hg j h.1 h.2).2]
  · have h1 : mixA (mixA w (tnew E w) 0 a) (tg E (mixA w (tnew E w) 0 a) a z) a (a + z) j = mixA w (tnew E w) 0 a j := if_neg h
    rw [h1]
    by_cases h4 : j < a
    · have h2 : mixA w (tnew E w) 0 a j = tnew E w j := if_pos (by omega)
      have h3 : mixA w (tnew E w) 0 (a + z) j = tnew E w j := if_pos (by omega)
      rw [h2, h3]
    · have h2 : mixA w (tnew E w) 0 a j = w j := if_neg (by omega)
      have h3 : mixA w (tnew E w) 0 (a + z) j = w j := if_neg (by omega)
      rw [h2, h3]
theorem grp_c {E w : Nat → Nat} {a z : Nat} (hg : ∀ j, a ≤ j → j < a + z → gfst j = a ∧ gsz j = z) : cntF (mixA w (tnew E w) 0 a) (tg E (mixA w (tnew E w) 0 a) a z) a z = cntF w (tnew E w) a z := cntF_cong fun i hi => by
  have h3 : mixA w (tnew E w) 0 a (a + i) = w (a + i) := if_neg (by omega)
  rw [h3, tg_cong h3]
  unfold tnew
  rw [(hg (a + i) (by omega) (by omega)).1, (hg (a + i) (by omega) (by omega)).2]
theorem grp6 (f : Nat) (hf : f ≤ 6) : ∀ j, f * 6 ≤ j → j < f * 6 + 6 → gfst j = f * 6 ∧ gsz j = 6 := fun j h1 h2 => by
  unfold gfst gsz
  rw [if_pos (by omega), if_pos (by omega), show j / 6 = f by omega]; exact ⟨rfl, rfl⟩
theorem grp4 (f : Nat) (hf : f < 4) : ∀ j, 42 + f * 4 ≤ j → j < 42 + f * 4 + 4 → gfst j = 42 + f * 4 ∧ gsz j = 4 := fun j h1 h2 => by
  unfold gfst gsz
  rw [if_neg (by omega), if_neg (by omega), show (j - 42) / 4 = f by omega]; exact ⟨rfl, rfl⟩
theorem tg_le {E v : Nat → Nat} {a z j : Nat} (hv : v j ≤ 3) (h1 : a ≤ j) (h2 : j < a + z) : tg E v a z j ≤ 3 := by
  unfold tg
  split
  · exact hv
  · have := gx_ge E a (show j - a < z by omega)
    rw [show a + (j - a) = j by omega] at this
    exact tr1_le (by omega) this
theorem gr_in (j : Nat) (h : j < 58) : gfst j ≤ j ∧ j < gfst j + gsz j := by
  unfold gfst gsz
  by_cases h1 : j < 42
  · rw [if_pos h1, if_pos h1]; omega
  · rw [if_neg h1, if_neg h1]; omega
theorem tnew_le {E w : Nat → Nat} (hw : ∀ i, w i ≤ 3) (j : Nat) : tnew E w j ≤ 3 := by
  unfold tnew
  have h : gfst j ≤ j ∧ j < gfst j + gsz j := by
    unfold gfst gsz
    by_cases h1 : j < 42
    · rw [if_pos h1, if_pos h1]; omega
    · rw [if_neg h1, if_neg h1]; omega
  exact tg_le (hw j) h.1 h.2
theorem mix_le {E w : Nat → Nat} (hw : ∀ i, w i ≤ 3) (b j : Nat) : mixA w (tnew E w) 0 b j ≤ 3 := by
  unfold mixA
  split
  · exact tnew_le hw j
  · exact hw j
theorem tnew_0 {E w : Nat → Nat} {j : Nat} (hE : E j = 0) (hw : w j = 0) : tnew E w j = 0 := by
  unfold tnew tg
  split
  · exact hw
  · rw [hE]; exact tr1_0 _
