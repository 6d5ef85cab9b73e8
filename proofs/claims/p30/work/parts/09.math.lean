def fb_sm (f : Nat → Nat) : Nat → Nat
  | 0 => 0
  | n + 1 => fb_sm f n + f n
/-- going on over six places, where the weight is above nought -/
def foldT {β : Type} (op : β → Nat → β → β) (z : β) (m : Nat → Nat) (v : Nat → β) : Nat → β
  | 0 => z
  | i + 1 => if 0 < m i then op (foldT op z m v i) (m i) (v i) else foldT op z m v i
theorem foldT_cong {β : Type} {op : β → Nat → β → β} {z : β} {m m' : Nat → Nat} {v v' : Nat → β} : ∀ {N : Nat}, (∀ i, i < N → m i = m' i) → (∀ i, i < N → 0 < m i → v i = v' i) → foldT op z m v N = foldT op z m' v' N
  | 0, _, _ => rfl
  | N + 1, h1, h2 => by
    unfold foldT
    rw [foldT_cong (fun i hi => h1 i (by omega)) (fun i hi => h2 i (by omega)), ← h1 N (by omega)]
    by_cases h : 0 < m N
    · rw [if_pos h, if_pos h, h2 N (by omega) h]
    · rw [if_neg h, if_neg h]
def opS (a m x : Nat) : Nat := a + m * x
def opC (a _m x : Nat) : Nat := a + x
def opM (a m x : Nat) : Nat := max a (m * x)
/-- the weight of going on from f to t, d letters being told -/
def mv (w : Nat → Nat) (k : Nat) (r : Nat → Nat) (f t d : Nat) : Nat := if 4 ≤ t then w (f * 6 + t) else if d < k then w (f * 6 + t) * w (42 + t * 4 + r d) else 0
def nx (t d : Nat) : Nat := if t < 4 then d + 1 else d
/-- a row of rests out of the row behind it -/
def r5 {β : Type} (op : β → Nat → β → β) (z : β) (g : Nat → Nat → Nat) (nxt : Nat → β) : β := foldT op z (g 5) nxt 4
def r4 {β : Type} (op : β → Nat → β → β) (z : β) (g : Nat → Nat → Nat) (nxt : Nat → β) : β := foldT op z (g 4) (fun t => if t < 4 then nxt t else r5 op z g nxt) 6
def rowA {β : Type} (op : β → Nat → β → β) (z : β) (g : Nat → Nat → Nat) (nxt : Nat → β) : Nat → β := fun f => if f = 5 then r5 op z g nxt else if f = 4 then r4 op z g nxt else foldT op z (g f) (fun t => if t < 4 then nxt t else if t = 4 then r4 op z g nxt else r5 op z g nxt) 6
/-- rests when j letters are to be told yet -/
def Ax {β : Type} (op : β → Nat → β → β) (z e : β) (w : Nat → Nat) (k : Nat) (r : Nat → Nat) : Nat → Nat → β
  | 0 => fun f => if f < 4 ∨ (f = 6 ∧ k = 0) then e else z
  | j + 1 => rowA op z (fun f t => mv w k r f t (k - (j + 1))) (Ax op z e w k r j)
abbrev Sx' (w : Nat → Nat) (k : Nat) (r : Nat → Nat) : Nat → Nat → Nat := Ax opS 0 1 w k r
abbrev Cx' (w : Nat → Nat) (k : Nat) (r : Nat → Nat) : Nat → Nat → Nat := Ax opC 0 1 w k r
abbrev Mx' (w : Nat → Nat) (k : Nat) (r : Nat → Nat) : Nat → Nat → Nat := Ax opM 0 1 w k r
/-- weights as they may be -/
def Wok (w : Nat → Nat) : Prop := (∀ i, w i ≤ 3) ∧ w 28 = 0 ∧ w 34 = 0 ∧ w 35 = 0
theorem mv_le {w : Nat → Nat} (hw : Wok w) (k : Nat) (r : Nat → Nat) (f t d : Nat) : mv w k r f t d ≤ 9 := by
  have h1 := hw.1 (f * 6 + t)
  have h2 := hw.1 (42 + t * 4 + r d)
  unfold mv
  split
  · omega
  · split
    · have := Nat.mul_le_mul h1 h2
      omega
    · omega
theorem mv_le3 {w : Nat → Nat} (hw : Wok w) (k : Nat) (r : Nat → Nat) (f t d : Nat) (ht : 4 ≤ t) : mv w k r f t d ≤ 3 := by
  unfold mv; rw [if_pos ht]; exact hw.1 _
theorem mv_44 {w : Nat → Nat} (hw : Wok w) (k : Nat) (r : Nat → Nat) (d : Nat) : mv w k r 4 4 d = 0 := by unfold mv; rw [if_pos (by decide)]; exact hw.2.1
theorem mv_54 {w : Nat → Nat} (hw : Wok w) (k : Nat) (r : Nat → Nat) (d : Nat) : mv w k r 5 4 d = 0 := by unfold mv; rw [if_pos (by decide)]; exact hw.2.2.1
theorem mv_55 {w : Nat → Nat} (hw : Wok w) (k : Nat) (r : Nat → Nat) (d : Nat) : mv w k r 5 5 d = 0 := by unfold mv; rw [if_pos (by decide)]; exact hw.2.2.2
/-- the row at told d: how its own silent places stand in it -/
theorem rowA_fold {β : Type} {op : β → Nat → β → β} {z : β} {g : Nat → Nat → Nat} {nxt : Nat → β} (h44 : g 4 4 = 0) (h54 : g 5 4 = 0) (h55 : g 5 5 = 0) (f : Nat) :
    rowA op z g nxt f = foldT op z (g f) (fun t => if t < 4 then nxt t else rowA op z g nxt t) 6 := by
  have e5 : rowA op z g nxt 5 = r5 op z g nxt := by unfold rowA; rw [if_pos rfl]
  have e4 : rowA op z g nxt 4 = r4 op z g nxt := by unfold rowA; rw [if_neg (by decide), if_pos rfl]
  by_cases h5 : f = 5
  · subst h5
    rw [e5]
    unfold r5
    show _ = foldT op z (g 5) _ 6
    simp only [foldT, h54, h55, Nat.lt_irrefl, if_false]
    simp
  · by_cases h4 : f = 4
    · subst h4
      rw [e4]
      unfold r4
      refine foldT_cong (fun _ _ => rfl) (fun i hi hp => ?_)
      by_cases hi4 : i < 4
      · simp [hi4]
      · have : i = 4 ∨ i = 5 := by omega
        rcases this with rfl | rfl
        · rw [h44] at hp; omega
        · simp [e5]
    · unfold rowA
      rw [if_neg h5, if_neg h4]
      refine foldT_cong (fun _ _ => rfl) (fun i hi hp => ?_)
      by_cases hi4 : i < 4
      · simp [hi4]
      · have : i = 4 ∨ i = 5 := by omega
        rcases this with rfl | rfl
        · simp
        · simp
theorem Ax_succ {β : Type} {op : β → Nat → β → β} {z e : β} {w : Nat → Nat} {k : Nat} {r : Nat → Nat} (hw : Wok w) (d : Nat) (hd : d < k) (f : Nat) :
    Ax op z e w k r (k - d) f = foldT op z (fun t => mv w k r f t d) (fun t => Ax op z e w k r (k - nx t d) t) 6 := by
  obtain ⟨j, hj⟩ : ∃ j, k - d = j + 1 := ⟨k - d - 1, by omega⟩
  have hd2 : k - (j + 1) = d := by omega
  rw [hj]
  show rowA op z (fun f t => mv w k r f t (k - (j + 1))) (Ax op z e w k r j) f = _
  rw [hd2, rowA_fold (mv_44 hw k r d) (mv_54 hw k r d) (mv_55 hw k r d)]
  refine foldT_cong (fun _ _ => rfl) (fun i hi _ => ?_)
  by_cases hi4 : i < 4
  · have e1 : k - nx i d = j := by unfold nx; rw [if_pos hi4]; omega
    rw [e1, if_pos hi4]
  · have e1 : k - nx i d = j + 1 := by unfold nx; rw [if_neg hi4]; omega
    rw [e1, if_neg hi4]
    show _ = rowA op z (fun f t => mv w k r f t (k - (j + 1))) (Ax op z e w k r j) i
    rw [hd2]
theorem foldS_succ (m v : Nat → Nat) (N : Nat) : foldT opS 0 m v (N + 1) = foldT opS 0 m v N + m N * v N := by
  show (if 0 < m N then opS (foldT opS 0 m v N) (m N) (v N) else foldT opS 0 m v N) = _
  by_cases h : 0 < m N
  · rw [if_pos h]; rfl
  · rw [if_neg h, show m N = 0 by omega, Nat.zero_mul, Nat.add_zero]
theorem foldS_zero (m v : Nat → Nat) : foldT opS 0 m v 0 = 0 := rfl
theorem foldS_4 (m v : Nat → Nat) : foldT opS 0 m v 4 = m 0 * v 0 + m 1 * v 1 + m 2 * v 2 + m 3 * v 3 := by
  rw [foldS_succ, foldS_succ, foldS_succ, foldS_succ, foldS_zero]; omega
theorem foldS_6 (m v : Nat → Nat) : foldT opS 0 m v 6 = m 0 * v 0 + m 1 * v 1 + m 2 * v 2 + m 3 * v 3 + m 4 * v 4 + m 5 * v 5 := by
  rw [foldS_succ, foldS_succ, foldS_4]
theorem mul9 {a b c d : Nat} (h1 : a ≤ c) (h2 : b ≤ d) : a * b ≤ c * d := Nat.mul_le_mul h1 h2
theorem rowS_le {g : Nat → Nat → Nat} {nxt : Nat → Nat} {B : Nat} (h9 : ∀ f t, g f t ≤ 9) (h3 : ∀ f t, 4 ≤ t → g f t ≤ 3) (hB : ∀ t, t < 4 → nxt t ≤ B) :
    r5 opS 0 g nxt ≤ 36 * B ∧ r4 opS 0 g nxt ≤ 36 * B + 3 * (36 * B) + 3 * (36 * B) ∧ ∀ f, f ≠ 4 → f ≠ 5 → rowA opS 0 g nxt f ≤ 36 * B + 3 * r4 opS 0 g nxt + 3 * r5 opS 0 g nxt := by
  have e5 : r5 opS 0 g nxt ≤ 36 * B := by
    unfold r5
    rw [foldS_4]
    have a0 := mul9 (h9 5 0) (hB 0 (by decide))
    have a1 := mul9 (h9 5 1) (hB 1 (by decide))
    have a2 := mul9 (h9 5 2) (hB 2 (by decide))
    have a3 := mul9 (h9 5 3) (hB 3 (by decide))
    omega
  refine ⟨e5, ?_, fun f h4 h5 => ?_⟩
  · unfold r4
    rw [foldS_6]
    have a0 := mul9 (h9 4 0) (hB 0 (by decide))
    have a1 := mul9 (h9 4 1) (hB 1 (by decide))
    have a2 := mul9 (h9 4 2) (hB 2 (by decide))
    have a3 := mul9 (h9 4 3) (hB 3 (by decide))
    have a4 := mul9 (h3 4 4 (by decide)) e5
    have a5 := mul9 (h3 4 5 (by decide)) e5
    simp only [show (0:Nat) < 4 by decide, show (1:Nat) < 4 by decide, show (2:Nat) < 4 by decide, show (3:Nat) < 4 by decide, show ¬ (4:Nat) < 4 by decide, show ¬ (5:Nat) < 4 by decide, if_true, if_false]
    omega
  · unfold rowA
    rw [if_neg h5, if_neg h4, foldS_6]
    have a0 := mul9 (h9 f 0) (hB 0 (by decide))
    have a1 := mul9 (h9 f 1) (hB 1 (by decide))
    have a2 := mul9 (h9 f 2) (hB 2 (by decide))
    have a3 := mul9 (h9 f 3) (hB 3 (by decide))
    have a4 := mul9 (h3 f 4 (by decide)) (Nat.le_refl (r4 opS 0 g nxt))
    have a5 := mul9 (h3 f 5 (by decide)) (Nat.le_refl (r5 opS 0 g nxt))
    simp only [show (0:Nat) < 4 by decide, show (1:Nat) < 4 by decide, show (2:Nat) < 4 by decide, show (3:Nat) < 4 by decide, show ¬ (4:Nat) < 4 by decide, show ¬ (5:Nat) < 4 by decide, show ¬ (5:Nat) = 4 by decide, if_true, if_false]
    omega
theorem r4S_le {g : Nat → Nat → Nat} {nxt : Nat → Nat} {B : Nat} (h9 : ∀ f t, g f t ≤ 9) (h3 : ∀ f t, 4 ≤ t → g f t ≤ 3) (h44 : g 4 4 = 0) (hB : ∀ t, t < 4 → nxt t ≤ B) : r4 opS 0 g nxt ≤ 144 * B := by
  have e5 := (rowS_le h9 h3 hB).1
  unfold r4
  rw [foldS_6]
  have a0 := mul9 (h9 4 0) (hB 0 (by decide))
  have a1 := mul9 (h9 4 1) (hB 1 (by decide))
  have a2 := mul9 (h9 4 2) (hB 2 (by decide))
  have a3 := mul9 (h9 4 3) (hB 3 (by decide))
  have a5 := mul9 (h3 4 5 (by decide)) e5
  simp only [show (0:Nat) < 4 by decide, show (1:Nat) < 4 by decide, show (2:Nat) < 4 by decide, show (3:Nat) < 4 by decide, show ¬ (4:Nat) < 4 by decide, show ¬ (5:Nat) < 4 by decide, if_true, if_false, h44, Nat.zero_mul]
  omega
theorem AxS_le {w : Nat → Nat} (hw : Wok w) (k : Nat) (r : Nat → Nat) : ∀ j f, Sx' w k r j f ≤ 576 ^ j
  | 0, f => by
    show (if f < 4 ∨ (f = 6 ∧ k = 0) then 1 else 0) ≤ 1
    split <;> omega
  | j + 1, f => by
    have ih := AxS_le hw k r j
    have h9 : ∀ f t, mv w k r f t (k - (j + 1)) ≤ 9 := fun f t => mv_le hw k r f t _
    have h3 : ∀ f t, 4 ≤ t → mv w k r f t (k - (j + 1)) ≤ 3 := fun f t h => mv_le3 hw k r f t _ h
    have hB : ∀ t, t < 4 → Ax opS 0 1 w k r j t ≤ 576 ^ j := fun t _ => ih t
    have e5 := (rowS_le h9 h3 hB).1
    have e4 := r4S_le h9 h3 (mv_44 hw k r _) hB
    have ef := (rowS_le h9 h3 hB).2.2
    show rowA opS 0 (fun f t => mv w k r f t (k - (j + 1))) (Ax opS 0 1 w k r j) f ≤ _
    rw [Nat.pow_succ]
    by_cases h5 : f = 5
    · subst h5
      have : rowA opS 0 (fun f t => mv w k r f t (k - (j + 1))) (Ax opS 0 1 w k r j) 5 = r5 opS 0 (fun f t => mv w k r f t (k - (j + 1))) (Ax opS 0 1 w k r j) := by unfold rowA; rw [if_pos rfl]
      rw [this]; omega
    · by_cases h4 : f = 4
      · subst h4
        have : rowA opS 0 (fun f t => mv w k r f t (k - (j + 1))) (Ax opS 0 1 w k r j) 4 = r4 opS 0 (fun f t => mv w k r f t (k - (j + 1))) (Ax opS 0 1 w k r j) := by unfold rowA; rw [if_neg (by decide), if_pos rfl]
        rw [this]; omega
      · have := ef f h4 h5
        omega
/-- a relation that the folds keep -/
theorem foldT_rel {α β : Type} {op : α → Nat → α → α} {op' : β → Nat → β → β} {z : α} {z' : β} {P : α → β → Prop} {m : Nat → Nat} {v : Nat → α} {v' : Nat → β} (h0 : P z z') (hs : ∀ a b x y i, 0 < i → P a b → P x y → P (op a i x) (op' b i y)) :
    ∀ {N : Nat}, (∀ i, i < N → 0 < m i → P (v i) (v' i)) → P (foldT op z m v N) (foldT op' z' m v' N)
  | 0, _ => h0
  | N + 1, h => by
    have ih := foldT_rel h0 hs (m := m) (v := v) (v' := v') (N := N) (fun i hi hp => h i (by omega) hp)
    unfold foldT
    by_cases hm : 0 < m N
    · rw [if_pos hm, if_pos hm]; exact hs _ _ _ _ _ hm ih (h N (by omega) hm)
    · rw [if_neg hm, if_neg hm]; exact ih
theorem Ax_rel {α β : Type} {op : α → Nat → α → α} {op' : β → Nat → β → β} {z e : α} {z' e' : β} {P : α → β → Prop} {w : Nat → Nat} {k : Nat} {r : Nat → Nat} (h0 : P z z') (h1 : P e e') (hs : ∀ a b x y i, 0 < i → P a b → P x y → P (op a i x) (op' b i y)) :
    ∀ j f, P (Ax op z e w k r j f) (Ax op' z' e' w k r j f)
  | 0, f => by
    show P (if f < 4 ∨ (f = 6 ∧ k = 0) then e else z) (if f < 4 ∨ (f = 6 ∧ k = 0) then e' else z')
    split
    · exact h1
    · exact h0
  | j + 1, f => by
    have ih := Ax_rel h0 h1 hs (w := w) (k := k) (r := r) j
    have e5 : P (r5 op z (fun f t => mv w k r f t (k - (j + 1))) (Ax op z e w k r j)) (r5 op' z' (fun f t => mv w k r f t (k - (j + 1))) (Ax op' z' e' w k r j)) := foldT_rel h0 hs (fun i _ _ => ih i)
    have e4 : P (r4 op z (fun f t => mv w k r f t (k - (j + 1))) (Ax op z e w k r j)) (r4 op' z' (fun f t => mv w k r f t (k - (j + 1))) (Ax op' z' e' w k r j)) := foldT_rel h0 hs (fun i _ _ => by
      by_cases h : i < 4
      · rw [if_pos h, if_pos h]; exact ih i
      · rw [if_neg h, if_neg h]; exact e5)
    show P (rowA op z _ _ f) (rowA op' z' _ _ f)
    unfold rowA
    by_cases h5 : f = 5
    · rw [if_pos h5, if_pos h5]; exact e5
    · rw [if_neg h5, if_neg h5]
      by_cases h4 : f = 4
      · rw [if_pos h4, if_pos h4]; exact e4
      · rw [if_neg h4, if_neg h4]
        refine foldT_rel h0 hs (fun i _ _ => ?_)
        by_cases h : i < 4
        · rw [if_pos h, if_pos h]; exact ih i
        · rw [if_neg h, if_neg h]
          by_cases h' : i = 4
          · rw [if_pos h', if_pos h']; exact e4
          · rw [if_neg h', if_neg h']; exact e5
theorem AxM_le {w : Nat → Nat} (k : Nat) (r : Nat → Nat) (j f : Nat) : Mx' w k r j f ≤ Sx' w k r j f :=
  Ax_rel (P := fun a b => a ≤ b) (Nat.le_refl 0) (Nat.le_refl 1) (fun a b x y i hi h1 h2 => by
    show max a (i * x) ≤ b + i * y
    have := Nat.mul_le_mul_left i h2
    omega) j f
theorem AxC_le {w : Nat → Nat} (k : Nat) (r : Nat → Nat) (j f : Nat) : Cx' w k r j f ≤ Sx' w k r j f :=
  Ax_rel (P := fun a b => a ≤ b) (Nat.le_refl 0) (Nat.le_refl 1) (fun a b x y i hi h1 h2 => by
    show a + x ≤ b + i * y
    have h3 : 1 * y ≤ i * y := Nat.mul_le_mul_right y hi
    omega) j f
theorem AxC_pos {w : Nat → Nat} (k : Nat) (r : Nat → Nat) (j f : Nat) : 0 < Cx' w k r j f ↔ 0 < Sx' w k r j f :=
  Ax_rel (P := fun a b => 0 < a ↔ 0 < b) Iff.rfl Iff.rfl (fun a b x y i hi h1 h2 => by
    show 0 < a + x ↔ 0 < b + i * y
    have h3 : 0 < i * y ↔ 0 < y := ⟨fun h => Nat.pos_of_mul_pos_left h, fun h => Nat.mul_pos hi h⟩
    omega) j f
theorem AxM_pos {w : Nat → Nat} (k : Nat) (r : Nat → Nat) (j f : Nat) : 0 < Mx' w k r j f ↔ 0 < Sx' w k r j f :=
  Ax_rel (P := fun a b => 0 < a ↔ 0 < b) Iff.rfl Iff.rfl (fun a b x y i hi h1 h2 => by
    show 0 < max a (i * x) ↔ 0 < b + i * y
    have h3 : 0 < i * y ↔ 0 < y := ⟨fun h => Nat.pos_of_mul_pos_left h, fun h => Nat.mul_pos hi h⟩
    have h4 : 0 < i * x ↔ 0 < x := ⟨fun h => Nat.pos_of_mul_pos_left h, fun h => Nat.mul_pos hi h⟩
    omega) j f
theorem foldC_le {m v : Nat → Nat} {B : Nat → Nat} : ∀ {N : Nat}, (∀ i, i < N → v i ≤ B i) → foldT opC 0 m v N ≤ fb_sm B N
  | 0, _ => Nat.le_refl 0
  | N + 1, h => by
    have h1 := foldC_le (m := m) (N := N) (fun i hi => h i (by omega))
    have h2 := h N (by omega)
    show (if 0 < m N then foldT opC 0 m v N + v N else foldT opC 0 m v N) ≤ fb_sm B N + B N
    split <;> omega
theorem AxC_16 {w : Nat → Nat} (hw : Wok w) (k : Nat) (r : Nat → Nat) : ∀ j f, Cx' w k r j f ≤ 16 ^ j
  | 0, f => by
    show (if f < 4 ∨ (f = 6 ∧ k = 0) then 1 else 0) ≤ 1
    split <;> omega
  | j + 1, f => by
    have ih := AxC_16 hw k r j
    have e5 : r5 opC 0 (fun f t => mv w k r f t (k - (j + 1))) (Ax opC 0 1 w k r j) ≤ 4 * 16 ^ j := by
      have := foldC_le (m := fun t => mv w k r 5 t (k - (j + 1))) (v := Ax opC 0 1 w k r j) (B := fun _ => 16 ^ j) (N := 4) (fun i _ => ih i)
      simp only [fb_sm] at this
      show foldT opC 0 (fun t => mv w k r 5 t (k - (j + 1))) (Ax opC 0 1 w k r j) 4 ≤ _
      omega
    have e4 : r4 opC 0 (fun f t => mv w k r f t (k - (j + 1))) (Ax opC 0 1 w k r j) ≤ 8 * 16 ^ j := by
      have h : foldT opC 0 (fun t => mv w k r 4 t (k - (j + 1))) (fun t => if t < 4 then Ax opC 0 1 w k r j t else r5 opC 0 (fun f t => mv w k r f t (k - (j + 1))) (Ax opC 0 1 w k r j)) 6 ≤ _ := foldC_le (B := fun t => if t < 4 then 16 ^ j else 4 * 16 ^ j) (fun i _ => by
        by_cases h : i < 4
        · simp only [if_pos h]; exact ih i
        · simp only [if_neg h]; exact e5)
      have h44 := mv_44 hw k r (k - (j + 1))
      have e : foldT opC 0 (fun t => mv w k r 4 t (k - (j + 1))) (fun t => if t < 4 then Ax opC 0 1 w k r j t else r5 opC 0 (fun f t => mv w k r f t (k - (j + 1))) (Ax opC 0 1 w k r j)) 5 = foldT opC 0 (fun t => mv w k r 4 t (k - (j + 1))) (fun t => if t < 4 then Ax opC 0 1 w k r j t else r5 opC 0 (fun f t => mv w k r f t (k - (j + 1))) (Ax opC 0 1 w k r j)) 4 := by
        show (if 0 < mv w k r 4 4 (k - (j + 1)) then _ else _) = _
        rw [h44]; rfl
      have h4 : foldT opC 0 (fun t => mv w k r 4 t (k - (j + 1))) (fun t => if t < 4 then Ax opC 0 1 w k r j t else r5 opC 0 (fun f t => mv w k r f t (k - (j + 1))) (Ax opC 0 1 w k r j)) 4 ≤ _ := foldC_le (B := fun _ => 16 ^ j) (fun i hi => by
        simp only [if_pos hi]; exact ih i)
      simp only [fb_sm] at h4
      show (if 0 < mv w k r 4 5 (k - (j + 1)) then foldT opC 0 (fun t => mv w k r 4 t (k - (j + 1))) (fun t => if t < 4 then Ax opC 0 1 w k r j t else r5 opC 0 (fun f t => mv w k r f t (k - (j + 1))) (Ax opC 0 1 w k r j)) 5 + _ else foldT opC 0 (fun t => mv w k r 4 t (k - (j + 1))) (fun t => if t < 4 then Ax opC 0 1 w k r j t else r5 opC 0 (fun f t => mv w k r f t (k - (j + 1))) (Ax opC 0 1 w k r j)) 5) ≤ _
      rw [e]
      simp only [if_neg (show ¬ (5:Nat) < 4 by decide)]
      split <;> omega
    show rowA opC 0 (fun f t => mv w k r f t (k - (j + 1))) (Ax opC 0 1 w k r j) f ≤ _
    rw [Nat.pow_succ]
    unfold rowA
    by_cases h5 : f = 5
    · rw [if_pos h5]; omega
    · rw [if_neg h5]
      by_cases h4 : f = 4
      · rw [if_pos h4]; omega
      · rw [if_neg h4]
        have h := foldC_le (m := (fun t => mv w k r f t (k - (j + 1)))) (v := fun t => if t < 4 then Ax opC 0 1 w k r j t else if t = 4 then r4 opC 0 (fun f t => mv w k r f t (k - (j + 1))) (Ax opC 0 1 w k r j) else r5 opC 0 (fun f t => mv w k r f t (k - (j + 1))) (Ax opC 0 1 w k r j)) (B := fun t => if t < 4 then 16 ^ j else if t = 4 then 8 * 16 ^ j else 4 * 16 ^ j) (N := 6) (fun i _ => by
          by_cases h : i < 4
          · simp only [if_pos h]; exact ih i
          · simp only [if_neg h]
            by_cases h' : i = 4
            · simp only [if_pos h']; exact e4
            · simp only [if_neg h']; exact e5)
        simp [fb_sm] at h
        refine Nat.le_trans h ?_
        omega
