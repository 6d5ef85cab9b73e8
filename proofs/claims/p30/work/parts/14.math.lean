theorem MdI_lo {I I1 : Ic} {w : Nat → Nat} {K : Nat} {ro : Nat → Nat} (h : MdI I w K ro) (hf : ∀ a, a < 4 → I1 a = I a) : MdI I1 w K ro :=
  ⟨fun i hi => by rw [hf 2 (by omega)]; exact h.1 i hi, by rw [hf 1 (by omega)]; exact h.2.1, fun j hj => by rw [hf 3 (by omega)]; exact h.2.2.1 j hj, h.2.2.2⟩
theorem Meas_lo {w r : Nat → Nat} {K : Nat} {I I1 : Ic} {L L1 : Lc} (h : Meas w r K I L) (hK : K ≤ 6) (hI : ∀ a, a < 49 → I1 a = I a) (hL : ∀ a, a < 49 → L1 a = L a) : Meas w r K I1 L1 := by
  refine ⟨fun d f hd hf => ?_, fun d f hd hf => ?_, fun d f hd hf => ⟨?_, ?_, ?_⟩, fun f hf => ?_, ?_, fun d h1 hd => ?_⟩
  · rw [hL _ (by omega)]; exact h.1 d f hd hf
  · rw [hL _ (by omega)]; exact h.2.1 d f hd hf
  · rw [hL _ (by omega)]; exact (h.2.2.1 d f hd hf).1
  · rw [hL _ (by omega)]; exact (h.2.2.1 d f hd hf).2.1
  · rw [hI _ (by omega)]; exact (h.2.2.1 d f hd hf).2.2
  · rw [hL _ (by omega)]; exact h.2.2.2.1 f hf
  · rw [hL _ (by omega)]; exact h.2.2.2.2.1
  · rw [hL _ (by omega)]; exact h.2.2.2.2.2 d h1 hd
def rtN (w r : Nat → Nat) (K d f t : Nat) : Nat := if 0 < mv w K r f t d then Cx' w K r (K - nx t d) t else 0
theorem fC_s (w r : Nat → Nat) (K d f i : Nat) : fC w r K d f (i + 1) = fC w r K d f i + rtN w r K d f i := by
  unfold rtN
  by_cases h : 0 < mv w K r f i d
  · rw [if_pos h, fC_p h]
  · rw [if_neg h, fC_n (by omega)]; rfl
theorem fC_0 (w r : Nat → Nat) (K d f : Nat) : fC w r K d f 0 = 0 := rfl
theorem rtN_b {w r : Nat → Nat} (hw : Wok w) {K d f t : Nat} (hK : K ≤ 6) : rtN w r K d f t ≤ 16777216 := by
  unfold rtN
  split
  · exact Cx_b hw K _ t (by omega)
  · omega
theorem fC_b {w r : Nat → Nat} (hw : Wok w) {K d f : Nat} (hK : K ≤ 6) : ∀ i, fC w r K d f i ≤ i * 16777216
  | 0 => Nat.le_refl 0
  | i + 1 => by
    have h1 := fC_b hw (r := r) (d := d) (f := f) hK i
    have h2 := rtN_b hw (r := r) (d := d) (f := f) (t := i) hK
    rw [fC_s]; omega
theorem fC_mono {w r : Nat → Nat} {K d f i j : Nat} (h : i ≤ j) : fC w r K d f i ≤ fC w r K d f j := by
  induction j with
  | zero => rw [show i = 0 by omega]; exact Nat.le_refl _
  | succ j ih =>
    by_cases e : i = j + 1
    · rw [e]; exact Nat.le_refl _
    · have := ih (by omega)
      rw [fC_s]; omega
/-- the step of the way with this number -/
def chB (w r : Nat → Nat) (K d f q : Nat) : Nat := if q < fC w r K d f 1 then 0 else if q < fC w r K d f 2 then 1 else if q < fC w r K d f 3 then 2 else if q < fC w r K d f 4 then 3 else if q < fC w r K d f 5 then 4 else 5
theorem chB_eq {w r : Nat → Nat} {K d f q t : Nat} (ht : t < 6) (h1 : fC w r K d f t ≤ q) (h2 : t < 5 → q < fC w r K d f (t + 1)) : chB w r K d f q = t := by
  have m1 := fC_mono (w := w) (r := r) (K := K) (d := d) (f := f) (show 1 ≤ 2 by decide)
  have m2 := fC_mono (w := w) (r := r) (K := K) (d := d) (f := f) (show 2 ≤ 3 by decide)
  have m3 := fC_mono (w := w) (r := r) (K := K) (d := d) (f := f) (show 3 ≤ 4 by decide)
  have m4 := fC_mono (w := w) (r := r) (K := K) (d := d) (f := f) (show 4 ≤ 5 by decide)
  unfold chB
  have hc : t = 0 ∨ t = 1 ∨ t = 2 ∨ t = 3 ∨ t = 4 ∨ t = 5 := by omega
  rcases hc with rfl | rfl | rfl | rfl | rfl | rfl
  · rw [if_pos (h2 (by decide))]
  · have := h2 (by decide); rw [if_neg (by omega), if_pos this]
  · have := h2 (by decide); rw [if_neg (by omega), if_neg (by omega), if_pos this]
  · have := h2 (by decide); rw [if_neg (by omega), if_neg (by omega), if_neg (by omega), if_pos this]
  · have := h2 (by decide); rw [if_neg (by omega), if_neg (by omega), if_neg (by omega), if_neg (by omega), if_pos this]
  · rw [if_neg (by omega), if_neg (by omega), if_neg (by omega), if_neg (by omega), if_neg (by omega)]
/-- may be gone to, and is as good as the best -/
def okM (w r : Nat → Nat) (K d f t : Nat) : Bool := decide (0 < rtN w r K d f t) && decide (mv w K r f t d * Mx' w K r (K - nx t d) t = Mx' w K r (K - d) f)
theorem okM_iff {w r : Nat → Nat} {K d f t : Nat} : okM w r K d f t = true ↔ 0 < rtN w r K d f t ∧ mv w K r f t d * Mx' w K r (K - nx t d) t = Mx' w K r (K - d) f := by
  unfold okM; rw [Bool.and_eq_true, decide_eq_true_iff, decide_eq_true_iff]
def chM (w r : Nat → Nat) (K d f : Nat) : Nat := if okM w r K d f 0 then 0 else if okM w r K d f 1 then 1 else if okM w r K d f 2 then 2 else if okM w r K d f 3 then 3 else if okM w r K d f 4 then 4 else 5
theorem chM_eq {w r : Nat → Nat} {K d f t : Nat} (ht : t < 6) (h1 : ∀ i, i < t → ¬ okM w r K d f i = true) (h2 : t < 5 → okM w r K d f t = true) : chM w r K d f = t := by
  unfold chM
  have hc : t = 0 ∨ t = 1 ∨ t = 2 ∨ t = 3 ∨ t = 4 ∨ t = 5 := by omega
  rcases hc with rfl | rfl | rfl | rfl | rfl | rfl
  · rw [if_pos (h2 (by decide))]
  · rw [if_neg (h1 0 (by decide)), if_pos (h2 (by decide))]
  · rw [if_neg (h1 0 (by decide)), if_neg (h1 1 (by decide)), if_pos (h2 (by decide))]
  · rw [if_neg (h1 0 (by decide)), if_neg (h1 1 (by decide)), if_neg (h1 2 (by decide)), if_pos (h2 (by decide))]
  · rw [if_neg (h1 0 (by decide)), if_neg (h1 1 (by decide)), if_neg (h1 2 (by decide)), if_neg (h1 3 (by decide)), if_pos (h2 (by decide))]
  · rw [if_neg (h1 0 (by decide)), if_neg (h1 1 (by decide)), if_neg (h1 2 (by decide)), if_neg (h1 3 (by decide)), if_neg (h1 4 (by decide))]
theorem chB_lt (w r : Nat → Nat) (K d f q : Nat) : chB w r K d f q < 6 := by unfold chB; repeat (first | decide | split)
theorem chM_lt (w r : Nat → Nat) (K d f : Nat) : chM w r K d f < 6 := by unfold chM; repeat (first | decide | split)
theorem chB_in {w r : Nat → Nat} (hw : Wok w) {K d f q : Nat} (hd : d < K) (h : q < Cx' w K r (K - d) f) : fC w r K d f (chB w r K d f q) ≤ q ∧ q < fC w r K d f (chB w r K d f q + 1) := by
  rw [Cx_f hw K d f hd] at h
  have m0 := fC_0 w r K d f
  unfold chB
  by_cases h1 : q < fC w r K d f 1
  · rw [if_pos h1]; exact ⟨by omega, h1⟩
  rw [if_neg h1]
  by_cases h2 : q < fC w r K d f 2
  · rw [if_pos h2]; exact ⟨by omega, h2⟩
  rw [if_neg h2]
  by_cases h3 : q < fC w r K d f 3
  · rw [if_pos h3]; exact ⟨by omega, h3⟩
  rw [if_neg h3]
  by_cases h4 : q < fC w r K d f 4
  · rw [if_pos h4]; exact ⟨by omega, h4⟩
  rw [if_neg h4]
  by_cases h5 : q < fC w r K d f 5
  · rw [if_pos h5]; exact ⟨by omega, h5⟩
  rw [if_neg h5]
  exact ⟨by omega, h⟩
theorem rt_step {w r : Nat → Nat} {K d f t : Nat} (h : 0 < rtN w r K d f t) : 0 < mv w K r f t d ∧ rtN w r K d f t = Cx' w K r (K - nx t d) t := by
  unfold rtN at h ⊢
  by_cases hm : 0 < mv w K r f t d
  · rw [if_pos hm]; exact ⟨hm, rfl⟩
  · rw [if_neg hm] at h; omega
/-- how far it may still be -/
def mu (K d f : Nat) : Nat := 3 * (K - d) - (if f = 4 then 1 else if f = 5 then 2 else 0)
theorem mu_step {w r : Nat → Nat} (hw : Wok w) {K d f t : Nat} (hd : d < K) (ht : t < 6) (hm : 0 < mv w K r f t d) : mu K (nx t d) t + 1 ≤ mu K d f := by
  unfold mu nx
  by_cases h4 : t < 4
  · rw [if_pos h4, if_neg (show ¬ t = 4 by omega), if_neg (show ¬ t = 5 by omega)]
    split
    · omega
    · split <;> omega
  · rw [if_neg h4]
    have h45 : t = 4 ∨ t = 5 := by omega
    rcases h45 with rfl | rfl
    · rw [if_pos rfl]
      by_cases f4 : f = 4
      · subst f4; rw [mv_44 hw] at hm; omega
      · by_cases f5 : f = 5
        · subst f5; rw [mv_54 hw] at hm; omega
        · rw [if_neg f4, if_neg f5]; omega
    · rw [if_neg (by decide), if_pos rfl]
      by_cases f5 : f = 5
      · subst f5; rw [mv_55 hw] at hm; omega
      · rw [if_neg f5]; split <;> omega
/-- ways as rows of places -/
def byN (w r : Nat → Nat) (K : Nat) : Nat → Nat → Nat → Nat → List Nat
  | 0, _, _, _ => []
  | u + 1, d, f, q => if d < K then chB w r K d f q :: byN w r K u (nx (chB w r K d f q) d) (chB w r K d f q) (q - fC w r K d f (chB w r K d f q)) else []
def byM (w r : Nat → Nat) (K : Nat) : Nat → Nat → Nat → List Nat
  | 0, _, _ => []
  | u + 1, d, f => if d < K then chM w r K d f :: byM w r K u (nx (chM w r K d f) d) (chM w r K d f) else []
def prN (w r : Nat → Nat) (K : Nat) : Nat → Nat → List Nat → Nat
  | _, _, [] => 1
  | d, f, t :: l => mv w K r f t d * prN w r K (nx t d) t l
def rkN (w r : Nat → Nat) (K : Nat) : Nat → Nat → List Nat → Nat
  | _, _, [] => 0
  | d, f, t :: l => fC w r K d f t + rkN w r K (nx t d) t l
abbrev wayN (w r : Nat → Nat) (K q : Nat) : List Nat := byN w r K 19 0 6 q
abbrev wayM (w r : Nat → Nat) (K : Nat) : List Nat := byM w r K 19 0 6
/-- what lies in the walk's cells -/
def Fol (l : List Nat) (P : Nat) (I : Ic) (L : Lc) : Prop := I 49 1 = nI l.length ∧ (∀ j, j < l.length → I 50 j = nI (l.getD j 0)) ∧ L 49 2 = lN P ∧ l.length ≤ 18
def FI (w r : Nat → Nat) (K way : Nat) (I0 : Ic) (L0 : Lc) (s d f q : Nat) (I : Ic) (L : Lc) : Prop :=
  (∃ (dn : List Nat) (P : Nat), wayN w r K way = dn ++ byN w r K (19 - s) d f q ∧ dn.length = s ∧ (∀ j, j < s → I 50 j = nI (dn.getD j 0)) ∧ L 49 2 = lN P ∧ P * prN w r K d f (byN w r K (19 - s) d f q) = prN w r K 0 6 (wayN w r K way)) ∧
  I 49 1 = nI s ∧ s + mu K d f ≤ 3 * K ∧ d ≤ K ∧ f ≤ 6 ∧ q < Cx' w K r (K - d) f ∧ (∀ a, a < 49 ∨ 50 < a → I a = I0 a) ∧ (∀ a, a < 49 ∨ 49 < a → L a = L0 a)
theorem FI_s {w r : Nat → Nat} (hw : Wok w) {K way s d f q t : Nat} {I0 I : Ic} {L0 L : Lc} (h : FI w r K way I0 L0 s d f q I L) (hK : K ≤ 6) (hd : d < K) (ht : t < 6) (h1 : fC w r K d f t ≤ q) (h2 : t < 5 → q < fC w r K d f (t + 1)) :
    FI w r K way I0 L0 (s + 1) (nx t d) t (q - fC w r K d f t) (up2 (up2 (up2 I 49 3 (nI (fC w r K d f t))) 50 s (nI t)) 49 1 (nI (s + 1))) (up2 L 49 2 (L 49 2 * lN (mv w K r f t d))) ∧ s < 18 := by
  obtain ⟨⟨dn, P, e1, e2, e3, e4, e5⟩, e6, e7, e8, e9, e10, e11, e12⟩ := h
  have ec : chB w r K d f q = t := chB_eq ht h1 h2
  have hin := chB_in hw hd e10
  rw [ec] at hin
  have hrt : q < fC w r K d f t + rtN w r K d f t := by rw [← fC_s]; exact hin.2
  have hst := rt_step (w := w) (r := r) (K := K) (d := d) (f := f) (t := t) (by omega)
  have hmu := mu_step hw hd ht hst.1
  have hmu1 : mu K d f ≤ 18 := by omega
  have hs : s < 18 := by omega
  have hfu : 19 - s = (19 - (s + 1)) + 1 := by omega
  have eb : byN w r K (19 - s) d f q = t :: byN w r K (19 - (s + 1)) (nx t d) t (q - fC w r K d f t) := by
    rw [hfu]
    show (if d < K then _ else _) = _
    rw [if_pos hd, ec]
  refine ⟨⟨⟨dn ++ [t], P * mv w K r f t d, ?_, ?_, fun j hj => ?_, ?_, ?_⟩, ?_, by omega, by unfold nx; split <;> omega, by omega, by rw [hst.2] at hrt; omega, fun a ha => ?_, fun a ha => ?_⟩, hs⟩
  · rw [e1, eb, List.append_assoc]; rfl
  · rw [List.length_append, e2]; rfl
  · rw [up2_at, if_neg (by omega), up2_at]
    by_cases ej : j = s
    · rw [if_pos ⟨rfl, ej⟩, ej, ← e2]; simp
    · rw [if_neg (by omega), up2_at, if_neg (by omega), e3 j (by omega)]
      simp [List.getElem?_append_left (show j < dn.length by omega)]
  · rw [up2_at, if_pos ⟨rfl, rfl⟩, e4, lN_mul]
  · rw [← e5, eb]
    show P * mv w K r f t d * prN w r K (nx t d) t _ = P * (mv w K r f t d * prN w r K (nx t d) t _)
    rw [Nat.mul_assoc]
  · rw [up2_at, if_pos ⟨rfl, rfl⟩]
  · rw [up2_ne (by omega), up2_ne (by omega), up2_ne (by omega)]; exact e11 a ha
  · rw [up2_ne (by omega)]; exact e12 a ha
theorem FI_e {w r : Nat → Nat} {K way s d f q : Nat} {I0 I : Ic} {L0 L : Lc} (h : FI w r K way I0 L0 s d f q I L) (hK : K ≤ 6) (hd : K ≤ d) : Fol (wayN w r K way) (prN w r K 0 6 (wayN w r K way)) I L := by
  obtain ⟨⟨dn, P, e1, e2, e3, e4, e5⟩, e6, e7, e8, e9, e10, e11, e12⟩ := h
  have eb : byN w r K (19 - s) d f q = [] := by
    cases hu : 19 - s with
    | zero => rfl
    | succ u => show (if d < K then _ else _) = _; rw [if_neg (by omega)]
  rw [eb, List.append_nil] at e1
  rw [eb] at e5
  have e5' : P * 1 = prN w r K 0 6 (wayN w r K way) := e5
  refine ⟨by rw [e1, e2]; exact e6, fun j hj => ?_, by rw [← e5', Nat.mul_one]; exact e4, by rw [e1, e2]; omega⟩
  rw [e1] at hj ⊢
  exact e3 j (by omega)
theorem FI_0 {w r : Nat → Nat} {K way : Nat} {I0 I : Ic} {L0 L : Lc} (hway : way < Cx' w K r K 6) (hI : I 49 1 = nI 0) (hL : L 49 2 = lN 1) (h1 : ∀ a, a < 49 ∨ 50 < a → I a = I0 a) (h2 : ∀ a, a < 49 ∨ 49 < a → L a = L0 a) : FI w r K way I0 L0 0 0 6 way I L :=
  ⟨⟨[], 1, rfl, rfl, fun j hj => absurd hj (by omega), hL, Nat.one_mul _⟩, hI, by unfold mu; simp, Nat.zero_le K, by decide, hway, h1, h2⟩
def tellS (l : List Nat) (x : Int32) : Int32 := if x = -1 then nI l.length else match rng x l.length with | some j => nI (l.getD j 0) | none => -6
theorem up2_up2 {α : Type} {f : Nat → Nat → α} {a j : Nat} {x y : α} : up2 (up2 f a j x) a j y = up2 f a j y := by
  funext b
  by_cases hb : b = a
  · subst hb
    funext q
    rw [up2_at, up2_at, up2_at]
    by_cases hq : q = j
    · rw [if_pos ⟨rfl, hq⟩, if_pos ⟨rfl, hq⟩]
    · rw [if_neg (fun z => hq z.2), if_neg (fun z => hq z.2), if_neg (fun z => hq z.2)]
  · rw [up2_ne hb, up2_ne hb, up2_ne hb]
theorem FI_lt {w r : Nat → Nat} {K way s d f q : Nat} {I0 I : Ic} {L0 L : Lc} (h : FI w r K way I0 L0 s d f q I L) (hK : K ≤ 6) (hd : d < K) : s < 18 := by
  have h7 := h.2.2.1
  have : 1 ≤ mu K d f := by unfold mu; split; omega; split <;> omega
  omega
def GI (w r : Nat → Nat) (K s d f a : Nat) : Prop := a + rkN w r K d f (byM w r K (19 - s) d f) = rkN w r K 0 6 (wayM w r K) ∧ s + mu K d f ≤ 3 * K ∧ d ≤ K ∧ f ≤ 6 ∧ 0 < Cx' w K r (K - d) f
theorem GI_lt {w r : Nat → Nat} {K s d f a : Nat} (h : GI w r K s d f a) (hK : K ≤ 6) (hd : d < K) : s < 18 := by
  have h7 := h.2.1
  have : 1 ≤ mu K d f := by unfold mu; split; omega; split <;> omega
  omega
theorem fM_ex (w r : Nat → Nat) (K d f : Nat) : ∀ i, fM w r K d f i = 0 ∨ ∃ t, t < i ∧ 0 < mv w K r f t d ∧ mv w K r f t d * Mx' w K r (K - nx t d) t = fM w r K d f i
  | 0 => Or.inl rfl
  | i + 1 => by
    by_cases hm : 0 < mv w K r f i d
    · rw [fM_p hm]
      by_cases hx : fM w r K d f i ≤ mv w K r f i d * Mx' w K r (K - nx i d) i
      · rw [Nat.max_eq_right hx]; exact Or.inr ⟨i, by omega, hm, rfl⟩
      · rw [Nat.max_eq_left (by omega)]
        rcases fM_ex w r K d f i with h | ⟨t, h1, h2, h3⟩
        · exact Or.inl h
        · exact Or.inr ⟨t, by omega, h2, h3⟩
    · rw [fM_n (by omega)]
      rcases fM_ex w r K d f i with h | ⟨t, h1, h2, h3⟩
      · exact Or.inl h
      · exact Or.inr ⟨t, by omega, h2, h3⟩
theorem chM_ok {w r : Nat → Nat} (hw : Wok w) {K d f : Nat} (hd : d < K) (h : 0 < Cx' w K r (K - d) f) : okM w r K d f (chM w r K d f) = true := by
  have hM : 0 < Mx' w K r (K - d) f := (AxM_pos K r (K - d) f).mpr ((AxC_pos K r (K - d) f).mp h)
  have e := Mx_f hw K d f hd (r := r)
  rcases fM_ex w r K d f 6 with h0 | ⟨t, h1, h2, h3⟩
  · omega
  · have h4 : 0 < mv w K r f t d * Mx' w K r (K - nx t d) t := by omega
    have h5 : 0 < Mx' w K r (K - nx t d) t := Nat.pos_of_mul_pos_left h4
    have h6 : 0 < Cx' w K r (K - nx t d) t := (AxC_pos K r _ t).mpr ((AxM_pos K r _ t).mp h5)
    have hok : okM w r K d f t = true := okM_iff.mpr ⟨by unfold rtN; rw [if_pos h2]; exact h6, by rw [h3, e]⟩
    unfold chM
    by_cases k0 : okM w r K d f 0 = true
    · rw [if_pos k0]; exact k0
    rw [if_neg k0]
    by_cases k1 : okM w r K d f 1 = true
    · rw [if_pos k1]; exact k1
    rw [if_neg k1]
    by_cases k2 : okM w r K d f 2 = true
    · rw [if_pos k2]; exact k2
    rw [if_neg k2]
    by_cases k3 : okM w r K d f 3 = true
    · rw [if_pos k3]; exact k3
    rw [if_neg k3]
    by_cases k4 : okM w r K d f 4 = true
    · rw [if_pos k4]; exact k4
    rw [if_neg k4]
    have hc : t = 0 ∨ t = 1 ∨ t = 2 ∨ t = 3 ∨ t = 4 ∨ t = 5 := by omega
    rcases hc with rfl | rfl | rfl | rfl | rfl | rfl
    · exact absurd hok k0
    · exact absurd hok k1
    · exact absurd hok k2
    · exact absurd hok k3
    · exact absurd hok k4
    · exact hok
theorem GI_s {w r : Nat → Nat} (hw : Wok w) {K s d f a t : Nat} (h : GI w r K s d f a) (hK : K ≤ 6) (hd : d < K) (ht : t < 6) (h1 : ∀ i, i < t → ¬ okM w r K d f i = true) (h2 : t < 5 → okM w r K d f t = true) : GI w r K (s + 1) (nx t d) t (a + fC w r K d f t) := by
  have hs := GI_lt h hK hd
  obtain ⟨e1, e2, e3, e4, e5⟩ := h
  have ec : chM w r K d f = t := chM_eq ht h1 h2
  have hok := chM_ok hw hd e5
  rw [ec] at hok
  have hrt := (okM_iff.mp hok).1
  have hst := rt_step hrt
  have hmu := mu_step hw hd ht hst.1
  have hfu : 19 - s = (19 - (s + 1)) + 1 := by omega
  have eb : byM w r K (19 - s) d f = t :: byM w r K (19 - (s + 1)) (nx t d) t := by
    rw [hfu]
    show (if d < K then _ else _) = _
    rw [if_pos hd, ec]
  refine ⟨?_, by omega, by unfold nx; split <;> omega, by omega, by rw [← hst.2]; exact hrt⟩
  rw [← e1, eb]
  show a + fC w r K d f t + rkN w r K (nx t d) t _ = a + (fC w r K d f t + rkN w r K (nx t d) t _)
  rw [Nat.add_assoc]
theorem GI_e {w r : Nat → Nat} {K s d f a : Nat} (h : GI w r K s d f a) (hd : K ≤ d) : a = rkN w r K 0 6 (wayM w r K) := by
  have e1 := h.1
  have eb : byM w r K (19 - s) d f = [] := by
    cases hu : 19 - s with
    | zero => rfl
    | succ u => show (if d < K then _ else _) = _; rw [if_neg (by omega)]
  rw [eb] at e1
  have : a + 0 = rkN w r K 0 6 (wayM w r K) := e1
  omega
theorem GI_0 {w r : Nat → Nat} {K : Nat} (h : 0 < Cx' w K r K 6) : GI w r K 0 0 6 0 := ⟨Nat.zero_add _, by unfold mu; simp, Nat.zero_le K, by decide, h⟩
theorem tell_s {l : List Nat} {x : Int32} {j : Nat} (h : j < l.length) (hl : l.length ≤ 18) (hx : x = nI j) : tellS l x = nI (l.getD j 0) := by
  subst hx
  unfold tellS
  have hne : ¬ nI j = -1 := fun q => by
    have h1 := congrArg Int32.toInt q
    rw [nI_toInt (by omega), i_m1] at h1
    omega
  rw [if_neg hne, rng_nI h (by omega)]
theorem tell_n {l : List Nat} {x : Int32} (h1 : ¬ x = -1) (h : rng x l.length = none) : tellS l x = -6 := by
  unfold tellS
  rw [if_neg h1, h]
theorem tell_m (l : List Nat) : tellS l (-1) = nI l.length := if_pos rfl
