def arrN (u : Nat → Nat) (w : Nat → Nat) (t : Nat) : Nat → Nat
  | 0 => 0
  | i + 1 => arrN u w t i + u i * w (i * 6 + t)
def arrL (g : Nat → Int64) (w : Nat → Nat) (t : Nat) : Nat → Int64
  | 0 => lN 0
  | i + 1 => arrL g w t i + g i * lN (w (i * 6 + t))
theorem arr_ok {g : Nat → Int64} {u w : Nat → Nat} {t : Nat} : ∀ {N : Nat}, (∀ i, i < N → w (i * 6 + t) = 0 ∨ g i = lN (u i)) → arrL g w t N = lN (arrN u w t N)
  | 0, _ => rfl
  | N + 1, h => by
    unfold arrL arrN
    rw [arr_ok (fun i hi => h i (by omega)), ← lN_add]
    rcases h N (by omega) with h1 | h1
    · rw [h1]
      rw [show lN 0 = 0 from rfl, Int64.mul_zero, Nat.mul_zero]
      rfl
    · rw [h1, lN_mul]
theorem arrN_cong {u u' w : Nat → Nat} {t : Nat} : ∀ {N : Nat}, (∀ i, i < N → w (i * 6 + t) = 0 ∨ u i = u' i) → arrN u w t N = arrN u' w t N
  | 0, _ => rfl
  | N + 1, h => by
    unfold arrN
    rw [arrN_cong (fun i hi => h i (by omega))]
    rcases h N (by omega) with h1 | h1
    · rw [h1]; rfl
    · rw [h1]
def b4 (w u : Nat → Nat) : Nat := arrN u w 4 7
def b5 (w u : Nat → Nat) : Nat := arrN (fun f => if f = 4 then b4 w u else u f) w 5 7
def bF (w u : Nat → Nat) : Nat → Nat := fun f => if f = 5 then b5 w u else if f = 4 then b4 w u else u f
def rchu (w u : Nat → Nat) (t : Nat) : Nat := arrN (bF w u) w t 7
/-- what beginnings weigh that end with a loud place, or are none, d letters being told -/
def uB (w r : Nat → Nat) : Nat → Nat → Nat
  | 0 => fun f => if f = 6 then 1 else 0
  | d + 1 => fun f => if f < 4 then rchu w (uB w r d) f * w (42 + f * 4 + r d) else 0
theorem uB_si (w r : Nat → Nat) (d f : Nat) (h : f = 4 ∨ f = 5) : uB w r d f = 0 := by
  cases d with
  | zero => show (if f = 6 then 1 else 0) = 0; rw [if_neg (by omega)]
  | succ d => show (if f < 4 then _ else 0) = 0; rw [if_neg (by omega)]
def SI (L : Lc) : Prop := (∀ f, f < 4 → L 10 f = lN 0) ∧ L 10 6 = lN 1 ∧ ∀ d, 1 ≤ d → d ≤ 6 → L (10 + d) 6 = lN 0
theorem SI_6 {L : Lc} (h : SI L) (w r : Nat → Nat) {d : Nat} (hd : d ≤ 6) : L (10 + d) 6 = lN (uB w r d 6) := by
  cases d with
  | zero => exact h.2.1
  | succ d => rw [h.2.2 (d + 1) (by omega) hd]; rfl
theorem SI_u0 {L : Lc} (h : SI L) (w r : Nat → Nat) : ∀ f, f < 4 → L (10 + 0) f = lN (uB w r 0 f) := fun f hf => by
  rw [show 10 + 0 = 10 from rfl, h.1 f hf]
  show lN 0 = lN (if f = 6 then 1 else 0)
  rw [if_neg (by omega)]
/-- the outer loop of the beginnings: d rows stand -/
def BO (w r : Nat → Nat) (K : Nat) (L0 : Lc) (d : Nat) (L : Lc) : Prop :=
  (∀ d' f, d' < d → f ≤ 6 → L (10 + d') f = lN (bF w (uB w r d') f)) ∧ (∀ d' f, d' < d → f < 4 → L (18 + d') f = lN (rchu w (uB w r d') f)) ∧ (d ≤ K → ∀ f, f < 4 → L (10 + d) f = lN (uB w r d f)) ∧ SI L ∧ ∀ a, a < 10 ∨ 24 < a → L a = L0 a
/-- the inner loop: row d stands, and t of its steps to loud places -/
def BN (w r : Nat → Nat) (K : Nat) (L0 : Lc) (d t : Nat) (L : Lc) : Prop :=
  (∀ d' f, d' ≤ d → f ≤ 6 → L (10 + d') f = lN (bF w (uB w r d') f)) ∧ (∀ d' f, d' < d ∨ (d' = d ∧ f < t) → f < 4 → L (18 + d') f = lN (rchu w (uB w r d') f)) ∧ (d < K → ∀ f, f < t → f < 4 → L (10 + (d + 1)) f = lN (uB w r (d + 1) f)) ∧ SI L ∧ ∀ a, a < 10 ∨ 24 < a → L a = L0 a
theorem SI_up {L : Lc} (h : SI L) {a j : Nat} {x : Int64} (h1 : a = 10 → 4 ≤ j) (h2 : 10 ≤ a → a ≤ 16 → j ≠ 6) : SI (up2 L a j x) := by
  refine ⟨fun f hf => ?_, ?_, fun d hd hd6 => ?_⟩
  · rw [up2_at, if_neg (by omega)]; exact h.1 f hf
  · rw [up2_at, if_neg (by omega)]; exact h.2.1
  · rw [up2_at, if_neg (by omega)]; exact h.2.2 d hd hd6
theorem BO_4 {w r : Nat → Nat} {K d : Nat} {L0 L : Lc} (hw : Wok w) (hd : d ≤ K) (hK : K ≤ 6) (h : BO w r K L0 d L) : arrL (L (10 + d)) w 4 7 = lN (b4 w (uB w r d)) := arr_ok fun i hi => by
  by_cases h4 : i = 4
  · subst h4; exact Or.inl hw.2.1
  · by_cases h5 : i = 5
    · subst h5; exact Or.inl hw.2.2.1
    · refine Or.inr ?_
      by_cases h6 : i = 6
      · subst h6; exact SI_6 h.2.2.2.1 w r (by omega)
      · exact h.2.2.1 hd i (by omega)
theorem BO_5 {w r : Nat → Nat} {K d : Nat} {L0 L : Lc} (hw : Wok w) (hd : d ≤ K) (hK : K ≤ 6) (h : BO w r K L0 d L) : arrL (up2 L (10 + d) 4 (lN (b4 w (uB w r d))) (10 + d)) w 5 7 = lN (b5 w (uB w r d)) := arr_ok fun i hi => by
  by_cases h5 : i = 5
  · subst h5; exact Or.inl hw.2.2.2
  · refine Or.inr ?_
    by_cases h4 : i = 4
    · subst h4; rw [up2_at, if_pos ⟨rfl, rfl⟩, if_pos rfl]
    · rw [up2_at, if_neg (by omega), if_neg h4]
      by_cases h6 : i = 6
      · subst h6; exact SI_6 h.2.2.2.1 w r (by omega)
      · exact h.2.2.1 hd i (by omega)
theorem BN_0 {w r : Nat → Nat} {K d : Nat} {L0 L : Lc} (hd : d ≤ K) (hK : K ≤ 6) (h : BO w r K L0 d L) : BN w r K L0 d 0 (up2 (up2 L (10 + d) 4 (lN (b4 w (uB w r d)))) (10 + d) 5 (lN (b5 w (uB w r d)))) := by
  refine ⟨fun d' f hd' hf => ?_, fun d' f hd' hf => ?_, fun _ f hf _ => absurd hf (by omega), SI_up (SI_up h.2.2.2.1 (by omega) (by omega)) (by omega) (by omega), fun a ha => ?_⟩
  · by_cases e : d' = d
    · subst e
      unfold bF
      by_cases h5 : f = 5
      · subst h5; rw [up2_at, if_pos ⟨rfl, rfl⟩, if_pos rfl]
      · rw [up2_at, if_neg (by omega), if_neg h5]
        by_cases h4 : f = 4
        · subst h4; rw [up2_at, if_pos ⟨rfl, rfl⟩, if_pos rfl]
        · rw [up2_at, if_neg (by omega), if_neg h4]
          by_cases h6 : f = 6
          · subst h6; exact SI_6 h.2.2.2.1 w r (by omega)
          · exact h.2.2.1 hd f (by omega)
    · rw [up2_at, if_neg (by omega), up2_at, if_neg (by omega)]
      exact h.1 d' f (by omega) hf
  · rw [up2_at, if_neg (by omega), up2_at, if_neg (by omega)]
    exact h.2.1 d' f (by omega) hf
  · rw [up2_ne (by omega), up2_ne (by omega)]
    exact h.2.2.2.2 a ha
theorem BN_arr {w r : Nat → Nat} {K d t : Nat} {L0 L : Lc} (h : BN w r K L0 d t L) : arrL (L (10 + d)) w t 7 = lN (rchu w (uB w r d) t) := arr_ok fun i hi => Or.inr (h.1 d i (Nat.le_refl d) (by omega))
theorem BN_s {w r : Nat → Nat} {K d t : Nat} {L0 L : Lc} (hK : K ≤ 6) (hd : d < K) (ht : t < 4) (h : BN w r K L0 d t L) : BN w r K L0 d (t + 1) (up2 (up2 L (18 + d) t (lN (rchu w (uB w r d) t))) (10 + (d + 1)) t (lN (rchu w (uB w r d) t * w (42 + t * 4 + r d)))) := by
  refine ⟨fun d' f hd' hf => ?_, fun d' f hd' hf => ?_, fun hd1 f hf hf4 => ?_, SI_up (SI_up h.2.2.2.1 (by omega) (by omega)) (by omega) (by omega), fun a ha => ?_⟩
  · rw [up2_at, if_neg (by omega), up2_at, if_neg (by omega)]
    exact h.1 d' f hd' hf
  · rw [up2_at, if_neg (by omega), up2_at]
    by_cases e : 18 + d' = 18 + d ∧ f = t
    · rw [if_pos e, e.2, show d' = d by omega]
    · rw [if_neg e]; exact h.2.1 d' f (by omega) hf
  · rw [up2_at]
    by_cases e : f = t
    · subst e
      rw [if_pos ⟨rfl, rfl⟩]
      show _ = lN (if f < 4 then _ else 0)
      rw [if_pos hf4]
    · rw [if_neg (by omega), up2_at, if_neg (by omega)]
      exact h.2.2.1 hd1 f (by omega) hf4
  · rw [up2_ne (by omega), up2_ne (by omega)]
    exact h.2.2.2.2 a ha
theorem BN_t {w r : Nat → Nat} {K d t : Nat} {L0 L : Lc} (hK : K ≤ 6) (hd : d = K) (ht : t < 4) (h : BN w r K L0 d t L) : BN w r K L0 d (t + 1) (up2 L (18 + d) t (lN (rchu w (uB w r d) t))) := by
  refine ⟨fun d' f hd' hf => ?_, fun d' f hd' hf => ?_, fun hd1 => absurd hd1 (by omega), SI_up h.2.2.2.1 (by omega) (by omega), fun a ha => ?_⟩
  · rw [up2_at, if_neg (by omega)]
    exact h.1 d' f hd' hf
  · rw [up2_at]
    by_cases e : 18 + d' = 18 + d ∧ f = t
    · rw [if_pos e, e.2, show d' = d by omega]
    · rw [if_neg e]; exact h.2.1 d' f (by omega) hf
  · rw [up2_ne (by omega)]
    exact h.2.2.2.2 a ha
theorem BN_e {w r : Nat → Nat} {K d : Nat} {L0 L : Lc} (h : BN w r K L0 d 4 L) : BO w r K L0 (d + 1) L := ⟨fun d' f hd' hf => h.1 d' f (by omega) hf, fun d' f hd' hf => h.2.1 d' f (by omega) hf, fun hd f hf => h.2.2.1 (by omega) f hf hf, h.2.2.2.1, h.2.2.2.2⟩
/-- the rests -/
def Row (w r : Nat → Nat) (K : Nat) (I : Ic) (L : Lc) (d f : Nat) : Prop := L (26 + d) f = lN (Sx' w K r (K - d) f) ∧ L (34 + d) f = lN (Mx' w K r (K - d) f) ∧ I (42 + d) f = nI (Cx' w K r (K - d) f)
def Fr (I0 I : Ic) (L0 L : Lc) : Prop := (∀ a, a < 26 ∨ 40 < a → L a = L0 a) ∧ ∀ a, a < 42 ∨ 48 < a → I a = I0 a
def RO (w r : Nat → Nat) (K : Nat) (I0 I : Ic) (L0 L : Lc) (d : Nat) : Prop := (∀ d' f, d ≤ d' → d' ≤ K → f ≤ 6 → Row w r K I L d' f) ∧ Fr I0 I L0 L
/-- the row at K: f of it -/
def RB (w r : Nat → Nat) (K : Nat) (I0 I : Ic) (L0 L : Lc) (t : Nat) : Prop := (∀ f, f < t → Row w r K I L K f) ∧ Fr I0 I L0 L
/-- within row d: from t to 5 -/
def RN (w r : Nat → Nat) (K : Nat) (I0 I : Ic) (L0 L : Lc) (d t : Nat) : Prop := (∀ d' f, d < d' → d' ≤ K → f ≤ 6 → Row w r K I L d' f) ∧ (∀ f, t ≤ f → f ≤ 5 → Row w r K I L d f) ∧ Fr I0 I L0 L
theorem Fr_up {I0 I : Ic} {L0 L : Lc} (h : Fr I0 I L0 L) {d f : Nat} (hd : d ≤ 6) (x y : Int64) (z : Int32) : Fr I0 (up2 I (42 + d) f z) L0 (up2 (up2 L (26 + d) f x) (34 + d) f y) :=
  ⟨fun a ha => by rw [up2_ne (by omega), up2_ne (by omega)]; exact h.1 a ha, fun a ha => by rw [up2_ne (by omega)]; exact h.2 a ha⟩
theorem Row_up {w r : Nat → Nat} {K d f : Nat} {I : Ic} {L : Lc} (hd : d ≤ 6) : Row w r K (up2 I (42 + d) f (nI (Cx' w K r (K - d) f))) (up2 (up2 L (26 + d) f (lN (Sx' w K r (K - d) f))) (34 + d) f (lN (Mx' w K r (K - d) f))) d f := by
  refine ⟨?_, ?_, ?_⟩
  · rw [up2_at, if_neg (by omega), up2_at, if_pos ⟨rfl, rfl⟩]
  · rw [up2_at, if_pos ⟨rfl, rfl⟩]
  · rw [up2_at, if_pos ⟨rfl, rfl⟩]
theorem Row_ne {w r : Nat → Nat} {K d f d' f' : Nat} {I : Ic} {L : Lc} {x y : Int64} {z : Int32} (hd : d ≤ 6) (hd' : d' ≤ 6) (hne : d' ≠ d ∨ f' ≠ f) (h : Row w r K I L d' f') : Row w r K (up2 I (42 + d) f z) (up2 (up2 L (26 + d) f x) (34 + d) f y) d' f' := by
  refine ⟨?_, ?_, ?_⟩
  · rw [up2_at, if_neg (by omega), up2_at, if_neg (by omega)]; exact h.1
  · rw [up2_at, if_neg (by omega), up2_at, if_neg (by omega)]; exact h.2.1
  · rw [up2_at, if_neg (by omega)]; exact h.2.2
theorem RB_0 (w r : Nat → Nat) (K : Nat) (I : Ic) (L : Lc) : RB w r K I I L L 0 := ⟨fun f h => absurd h (by omega), fun _ _ => rfl, fun _ _ => rfl⟩
theorem Ax0 {β : Type} (op : β → Nat → β → β) (z e : β) (w : Nat → Nat) (K : Nat) (r : Nat → Nat) (f : Nat) : Ax op z e w K r (K - K) f = if f < 4 ∨ (f = 6 ∧ K = 0) then e else z := by rw [Nat.sub_self]; rfl
theorem RB_s {w r : Nat → Nat} {K t : Nat} {I0 I : Ic} {L0 L : Lc} (hK : K ≤ 6) (h : RB w r K I0 I L0 L t) {b : Nat} (hb : b = if t < 4 ∨ (t = 6 ∧ K = 0) then 1 else 0) : RB w r K I0 (up2 I (42 + K) t (nI b)) L0 (up2 (up2 L (26 + K) t (lN b)) (34 + K) t (lN b)) (t + 1) := by
  have eS : Sx' w K r (K - K) t = b := by rw [hb]; exact Ax0 _ _ _ _ _ _ _
  have eM : Mx' w K r (K - K) t = b := by rw [hb]; exact Ax0 _ _ _ _ _ _ _
  have eC : Cx' w K r (K - K) t = b := by rw [hb]; exact Ax0 _ _ _ _ _ _ _
  refine ⟨fun f hf => ?_, Fr_up h.2 hK _ _ _⟩
  by_cases e : f = t
  · subst e
    have := Row_up (w := w) (r := r) (K := K) (d := K) (f := f) (I := I) (L := L) hK
    rw [eS, eM, eC] at this
    exact this
  · exact Row_ne hK hK (Or.inr e) (h.1 f (by omega))
theorem RB_e {w r : Nat → Nat} {K : Nat} {I0 I : Ic} {L0 L : Lc} (h : RB w r K I0 I L0 L 7) : RO w r K I0 I L0 L K := ⟨fun d' f h1 h2 h3 => by rw [show d' = K by omega]; exact h.1 f (by omega), h.2⟩
theorem RN_0 {w r : Nat → Nat} {K d : Nat} {I0 I : Ic} {L0 L : Lc} (h : RO w r K I0 I L0 L (d + 1)) : RN w r K I0 I L0 L d 6 := ⟨fun d' f h1 h2 h3 => h.1 d' f (by omega) h2 h3, fun f h1 h2 => absurd h1 (by omega), h.2⟩
theorem RN_s {w r : Nat → Nat} {K d t : Nat} {I0 I : Ic} {L0 L : Lc} (hK : K ≤ 6) (hd : d < K) (h : RN w r K I0 I L0 L d (t + 1)) : RN w r K I0 (up2 I (42 + d) t (nI (Cx' w K r (K - d) t))) L0 (up2 (up2 L (26 + d) t (lN (Sx' w K r (K - d) t))) (34 + d) t (lN (Mx' w K r (K - d) t))) d t := by
  refine ⟨fun d' f h1 h2 h3 => Row_ne (by omega) (by omega) (Or.inl (by omega)) (h.1 d' f h1 h2 h3), fun f h1 h2 => ?_, Fr_up h.2.2 (by omega) _ _ _⟩
  by_cases e : f = t
  · subst e; exact Row_up (by omega)
  · exact Row_ne (by omega) (by omega) (Or.inr e) (h.2.1 f (by omega) h2)
theorem RN_e {w r : Nat → Nat} {K d : Nat} {I0 I : Ic} {L0 L : Lc} (hK : K ≤ 6) (hd : d < K) (h : RN w r K I0 I L0 L d 0) : RO w r K I0 (up2 I (42 + d) 6 (nI (Cx' w K r (K - d) 6))) L0 (up2 (up2 L (26 + d) 6 (lN (Sx' w K r (K - d) 6))) (34 + d) 6 (lN (Mx' w K r (K - d) 6))) d := by
  refine ⟨fun d' f h1 h2 h3 => ?_, Fr_up h.2.2 (by omega) _ _ _⟩
  by_cases e : d' = d
  · subst e
    by_cases e6 : f = 6
    · subst e6; exact Row_up (by omega)
    · exact Row_ne (by omega) (by omega) (Or.inr e6) (h.2.1 f (by omega) (by omega))
  · exact Row_ne (by omega) (by omega) (Or.inl e) (h.1 d' f (by omega) h2 h3)
/-- what a step from f needs of the rows -/
def Rnd (w r : Nat → Nat) (K : Nat) (I : Ic) (L : Lc) (d f : Nat) : Prop := ∀ t, t < 6 → 0 < mv w K r f t d → Row w r K I L (nx t d) t
theorem RN_n {w r : Nat → Nat} {K d t : Nat} {I0 I : Ic} {L0 L : Lc} (hw : Wok w) (hd : d < K) (ht : t ≤ 5) (h : RN w r K I0 I L0 L d (t + 1)) : Rnd w r K I L d t := fun i hi hp => by
  unfold nx
  by_cases h4 : i < 4
  · rw [if_pos h4]; exact h.1 (d + 1) i (by omega) (by omega) (by omega)
  · rw [if_neg h4]
    refine h.2.1 i ?_ (by omega)
    have h45 : i = 4 ∨ i = 5 := by omega
    rcases h45 with rfl | rfl
    · by_cases t4 : t = 4
      · subst t4; rw [mv_44 hw] at hp; omega
      · by_cases t5 : t = 5
        · subst t5; rw [mv_54 hw] at hp; omega
        · omega
    · by_cases t5 : t = 5
      · subst t5; rw [mv_55 hw] at hp; omega
      · omega
theorem RN_n6 {w r : Nat → Nat} {K d : Nat} {I0 I : Ic} {L0 L : Lc} (hd : d < K) (h : RN w r K I0 I L0 L d 0) : Rnd w r K I L d 6 := fun i hi hp => by
  unfold nx
  by_cases h4 : i < 4
  · rw [if_pos h4]; exact h.1 (d + 1) i (by omega) (by omega) (by omega)
  · rw [if_neg h4]; exact h.2.1 i (by omega) (by omega)
def fS (w r : Nat → Nat) (K d f : Nat) : Nat → Nat := foldT opS 0 (fun t => mv w K r f t d) (fun t => Sx' w K r (K - nx t d) t)
def fM (w r : Nat → Nat) (K d f : Nat) : Nat → Nat := foldT opM 0 (fun t => mv w K r f t d) (fun t => Mx' w K r (K - nx t d) t)
def fC (w r : Nat → Nat) (K d f : Nat) : Nat → Nat := foldT opC 0 (fun t => mv w K r f t d) (fun t => Cx' w K r (K - nx t d) t)
theorem fS_p {w r : Nat → Nat} {K d f i : Nat} (h : 0 < mv w K r f i d) : fS w r K d f (i + 1) = fS w r K d f i + mv w K r f i d * Sx' w K r (K - nx i d) i := by
  show (if 0 < mv w K r f i d then _ else _) = _; rw [if_pos h]; rfl
theorem fM_p {w r : Nat → Nat} {K d f i : Nat} (h : 0 < mv w K r f i d) : fM w r K d f (i + 1) = max (fM w r K d f i) (mv w K r f i d * Mx' w K r (K - nx i d) i) := by
  show (if 0 < mv w K r f i d then _ else _) = _; rw [if_pos h]; rfl
theorem fC_p {w r : Nat → Nat} {K d f i : Nat} (h : 0 < mv w K r f i d) : fC w r K d f (i + 1) = fC w r K d f i + Cx' w K r (K - nx i d) i := by
  show (if 0 < mv w K r f i d then _ else _) = _; rw [if_pos h]; rfl
theorem fS_n {w r : Nat → Nat} {K d f i : Nat} (h : mv w K r f i d = 0) : fS w r K d f (i + 1) = fS w r K d f i := by
  show (if 0 < mv w K r f i d then _ else _) = _; rw [if_neg (by omega)]; rfl
theorem fM_n {w r : Nat → Nat} {K d f i : Nat} (h : mv w K r f i d = 0) : fM w r K d f (i + 1) = fM w r K d f i := by
  show (if 0 < mv w K r f i d then _ else _) = _; rw [if_neg (by omega)]; rfl
theorem fC_n {w r : Nat → Nat} {K d f i : Nat} (h : mv w K r f i d = 0) : fC w r K d f (i + 1) = fC w r K d f i := by
  show (if 0 < mv w K r f i d then _ else _) = _; rw [if_neg (by omega)]; rfl
theorem foldM_le {m v : Nat → Nat} {B : Nat} : ∀ {N : Nat}, (∀ i, i < N → m i * v i ≤ B) → foldT opM 0 m v N ≤ B
  | 0, _ => Nat.zero_le B
  | N + 1, h => by
    have h1 := foldM_le (N := N) (fun i hi => h i (by omega))
    have h2 := h N (by omega)
    show (if 0 < m N then max (foldT opM 0 m v N) (m N * v N) else foldT opM 0 m v N) ≤ B
    split <;> omega
theorem pow576 {j : Nat} (h : j ≤ 6) : 576 ^ j ≤ 36520347436056576 := Nat.le_trans (Nat.pow_le_pow_right (by decide) h) (by decide)
theorem Mx_b {w r : Nat → Nat} (hw : Wok w) (K j f : Nat) (hj : j ≤ 6) : Mx' w K r j f ≤ 36520347436056576 := Nat.le_trans (AxM_le K r j f) (Nat.le_trans (AxS_le hw K r j f) (pow576 hj))
theorem Sx_b {w r : Nat → Nat} (hw : Wok w) (K j f : Nat) (hj : j ≤ 6) : Sx' w K r j f ≤ 36520347436056576 := Nat.le_trans (AxS_le hw K r j f) (pow576 hj)
theorem Cx_b {w r : Nat → Nat} (hw : Wok w) (K j f : Nat) (hj : j ≤ 6) : Cx' w K r j f ≤ 16777216 := Nat.le_trans (AxC_16 hw K r j f) (Nat.le_trans (Nat.pow_le_pow_right (by decide) hj) (by decide))
theorem mM_b {w r : Nat → Nat} (hw : Wok w) (K d f i : Nat) (hK : K ≤ 6) : mv w K r f i d * Mx' w K r (K - nx i d) i ≤ 9 * 36520347436056576 := Nat.mul_le_mul (mv_le hw K r f i d) (Mx_b hw K _ i (by omega))
theorem fM_b {w r : Nat → Nat} (hw : Wok w) (K d f i : Nat) (hK : K ≤ 6) : fM w r K d f i ≤ 9 * 36520347436056576 := foldM_le (fun t _ => mM_b hw K d f t hK)
theorem lN_max {a b : Nat} (ha : a < 2 ^ 63) (hb : b < 2 ^ 63) : (if lN b < lN a then lN a else lN b) = lN (max a b) := by
  by_cases h : b < a
  · rw [if_pos ((pk_lLT hb ha).mpr h), Nat.max_eq_left (by omega)]
  · rw [if_neg (fun q => h ((pk_lLT hb ha).mp q)), Nat.max_eq_right (by omega)]
theorem fM_lt {w r : Nat → Nat} (hw : Wok w) (K d f i : Nat) (hK : K ≤ 6) : fM w r K d f i < 2 ^ 63 := Nat.lt_of_le_of_lt (fM_b hw K d f i hK) (by decide)
theorem mM_lt {w r : Nat → Nat} (hw : Wok w) (K d f i : Nat) (hK : K ≤ 6) : mv w K r f i d * Mx' w K r (K - nx i d) i < 2 ^ 63 := Nat.lt_of_le_of_lt (mM_b hw K d f i hK) (by decide)
theorem Sx_f {w r : Nat → Nat} (hw : Wok w) (K d f : Nat) (hd : d < K) : Sx' w K r (K - d) f = fS w r K d f 6 := Ax_succ hw d hd f
theorem Mx_f {w r : Nat → Nat} (hw : Wok w) (K d f : Nat) (hd : d < K) : Mx' w K r (K - d) f = fM w r K d f 6 := Ax_succ hw d hd f
theorem Cx_f {w r : Nat → Nat} (hw : Wok w) (K d f : Nat) (hd : d < K) : Cx' w K r (K - d) f = fC w r K d f 6 := Ax_succ hw d hd f
