def cJ (i j : Nat) : Nat → Nat := fun t => if t < j then i + 1 else i
/-- what adding leaves -/
def AddP (L L1 : Lc) (k v : Nat) : Prop := (∀ q, L1 77 q = if q = k ∧ 0 < v then L 77 q + lN v else L 77 q) ∧ ∀ a, a ≠ 77 → L1 a = L a
theorem mv_0 {w r : Nat → Nat} {K i j d : Nat} (h4 : j < 4) (hd : ¬ d < K) : mv w K r i j d = 0 := by unfold mv; rw [if_neg (by omega), if_neg hd]
theorem AS_s {w r : Nat → Nat} {K : Nat} {L L1 : Lc} {d i j : Nat} (hK : K ≤ 6) (hd : d ≤ 6) (hj : j < 6) (h : AS w r K L d (cJ i j)) (ha : AddP L L1 (7 * j + nx j d) (Ah w r K d i * mv w K r i j d)) : AS w r K L1 d (cJ i (j + 1)) := by
  obtain ⟨h1, h2, h3, h4, h5, h6⟩ := h
  have e4 : j < 4 → nx j d = d + 1 := fun q => if_pos q
  have e5 : ¬ j < 4 → nx j d = d := fun q => if_neg q
  have hv : 0 < Ah w r K d i * mv w K r i j d → d ≤ K ∧ (j < 4 → d < K) := fun q => by
    refine ⟨Classical.byContradiction fun x => ?_, fun x => Classical.byContradiction fun y => ?_⟩
    · have : Ah w r K d i = 0 := if_neg x
      rw [this, Nat.zero_mul] at q; omega
    · rw [mv_0 x y, Nat.mul_zero] at q; omega
  have cne : ∀ t, t ≠ j → cJ i (j + 1) t = cJ i j t := fun t ht => by
    unfold cJ
    by_cases q : t < j
    · rw [if_pos q, if_pos (by omega)]
    · rw [if_neg q, if_neg (by omega)]
  have ceq : cJ i (j + 1) j = i + 1 := if_pos (by omega)
  have ceq' : cJ i j j = i := if_neg (by omega)
  have keep : ∀ t d', d' ≤ 6 → ¬ (t = j ∧ d' = nx j d) → L1 77 (7 * t + d') = L 77 (7 * t + d') := fun t d' h6' hne => by
    rw [ha.1]
    by_cases q : 7 * t + d' = 7 * j + nx j d ∧ 0 < Ah w r K d i * mv w K r i j d
    · exfalso
      have hh := hv q.2
      by_cases q4 : j < 4
      · have := hh.2 q4
        rw [e4 q4] at q hne; omega
      · rw [e5 q4] at q hne; omega
    · rw [if_neg q]
  refine ⟨fun t d' ht hd' h6' => ?_, fun t d' h4' ht hd' h6' => ?_, fun t h4' ht h6' => ?_, fun t ht h6' => ?_, fun t d' ht hd' h6' => ?_, fun t d' h4' ht hd' h6' => ?_⟩
  · rw [keep t d' h6' (fun q => by have := e4 (by omega); omega)]; exact h1 t d' ht hd' h6'
  · rw [keep t d' h6' (fun q => by have := e5 (by omega); omega)]; exact h2 t d' h4' ht hd' h6'
  · by_cases q : t = j
    · subst q
      have en : nx t d = d := e5 (by omega)
      rw [ha.1, en]
      have h3' := h3 t h4' ht h6'
      rw [ceq'] at h3'
      rw [ceq]
      by_cases hdK : d ≤ K
      · rw [if_pos hdK] at h3' ⊢
        have em : Ah w r K d i * mv w K r i t d = bF w (uB w r d) i * w (i * 6 + t) := by unfold Ah mv; rw [if_pos hdK, if_pos h4']
        rw [em, Pd_s]
        by_cases p : 0 < bF w (uB w r d) i * w (i * 6 + t)
        · rw [if_pos ⟨rfl, p⟩, h3', lN_add]
        · rw [if_neg (fun x => p x.2), h3', show bF w (uB w r d) i * w (i * 6 + t) = 0 by omega, Nat.add_zero]
      · rw [if_neg hdK] at h3' ⊢
        rw [if_neg (fun x => hdK (hv x.2).1)]; exact h3'
    · rw [keep t d (by omega) (fun x => q x.1), cne t q]; exact h3 t h4' ht h6'
  · by_cases q : t = j
    · subst q
      have en : nx t d = d + 1 := e4 ht
      rw [ha.1, en]
      have h4' := h4 t ht h6'
      rw [ceq'] at h4'
      rw [ceq]
      by_cases hdK : d < K
      · rw [if_pos hdK] at h4' ⊢
        have em : Ah w r K d i * mv w K r i t d = bF w (uB w r d) i * w (i * 6 + t) * w (42 + t * 4 + r d) := by unfold Ah mv; rw [if_pos (by omega), if_neg (by omega), if_pos hdK, Nat.mul_assoc]
        rw [em, Pd_s, Nat.add_mul]
        by_cases p : 0 < bF w (uB w r d) i * w (i * 6 + t) * w (42 + t * 4 + r d)
        · rw [if_pos ⟨rfl, p⟩, h4', lN_add]
        · rw [if_neg (fun x => p x.2), h4', show bF w (uB w r d) i * w (i * 6 + t) * w (42 + t * 4 + r d) = 0 by omega, Nat.add_zero]
      · rw [if_neg hdK] at h4' ⊢
        rw [if_neg (fun x => hdK ((hv x.2).2 ht))]; exact h4'
    · rw [keep t (d + 1) h6' (fun x => q x.1), cne t q]; exact h4 t ht h6'
  · rw [keep t d' h6' (fun q => by have := e4 (by omega); omega)]; exact h5 t d' ht hd' h6'
  · rw [keep t d' h6' (fun q => by have := e5 (by omega); omega)]; exact h6 t d' h4' ht hd' h6'
theorem AS_rd {w r : Nat → Nat} {K : Nat} {L : Lc} {d i j : Nat} (hw : Wok w) (hd : d ≤ 6) (hi : i < 6) (h : AS w r K L d (cJ i j)) : L 77 (7 * i + d) = lN (Ah w r K d i) := by
  by_cases h4 : i < 4
  · exact h.1 i d h4 (Nat.le_refl d) hd
  · rw [h.2.2.1 i (by omega) hi hd]
    unfold Ah
    by_cases hdK : d ≤ K
    · rw [if_pos hdK, if_pos hdK]
      have h45 : i = 4 ∨ i = 5 := by omega
      unfold cJ
      rcases h45 with rfl | rfl
      · split
        · rw [Pd_m hw r d (Or.inl ⟨rfl, rfl⟩), Pd_4]
        · rw [Pd_4]
      · split
        · rw [Pd_m hw r d (Or.inr (Or.inr ⟨rfl, rfl⟩)), Pd_5]
        · rw [Pd_5]
    · rw [if_neg hdK, if_neg hdK]
theorem AS_c {w r : Nat → Nat} {K : Nat} {L : Lc} {d : Nat} {c c' : Nat → Nat} (hc : ∀ t, t < 6 → c t = c' t) (h : AS w r K L d c) : AS w r K L d c' :=
  ⟨h.1, h.2.1, fun t h4 h6 hd => by rw [← hc t h6]; exact h.2.2.1 t h4 h6 hd, fun t h4 hd => by rw [← hc t (by omega)]; exact h.2.2.2.1 t h4 hd, h.2.2.2.2⟩
def A0 (w r : Nat → Nat) (K : Nat) (L : Lc) (j : Nat) : Prop := ∀ t d, t < 6 → d ≤ 6 → L 77 (7 * t + d) = lN (if t < j ∧ d = nx t 0 then mv w K r 6 t 0 else 0)
theorem nx01 (t : Nat) : nx t 0 ≤ 1 := by unfold nx; split <;> omega
theorem A0_s {w r : Nat → Nat} {K j : Nat} {L L1 : Lc} (h : A0 w r K L j) (ha : AddP L L1 (7 * j + nx j 0) (mv w K r 6 j 0)) : A0 w r K L1 (j + 1) := fun t d ht hd => by
  have n1 := nx01 j
  rw [ha.1, h t d ht hd]
  by_cases e : t = j ∧ d = nx j 0
  · obtain ⟨rfl, rfl⟩ := e
    rw [if_neg (show ¬ (t < t ∧ nx t 0 = nx t 0) from fun q => by omega), if_pos (show t < t + 1 ∧ nx t 0 = nx t 0 from ⟨by omega, rfl⟩)]
    by_cases p : 0 < mv w K r 6 t 0
    · rw [if_pos ⟨rfl, p⟩, lN_add, Nat.zero_add]
    · rw [if_neg (fun x => p x.2), show mv w K r 6 t 0 = 0 by omega]
  · rw [if_neg (fun q => e (by omega))]
    by_cases q : t < j ∧ d = nx t 0
    · rw [if_pos q, if_pos ⟨by omega, q.2⟩]
    · rw [if_neg q]
      rw [if_neg (fun x => by
        by_cases y : t = j
        · subst y; exact e ⟨rfl, x.2⟩
        · exact q ⟨by omega, x.2⟩)]
theorem A0_e {w r : Nat → Nat} {K : Nat} {L : Lc} (h : A0 w r K L 6) : AS w r K L 0 (fun _ => 0) := by
  have u0 : ∀ t, t < 4 → Ah w r K 0 t = 0 := fun t ht => by
    unfold Ah
    rw [if_pos (Nat.zero_le K), bF_lo ht]
    show (if t = 6 then 1 else 0) = 0
    rw [if_neg (by omega)]
  have p0 : ∀ t, Pd w r 0 0 t = w (6 * 6 + t) := fun t => by unfold Pd; rw [if_pos rfl]; rfl
  have nl : ∀ t, t < 4 → nx t 0 = 1 := fun t ht => if_pos ht
  have ns : ∀ t, 4 ≤ t → nx t 0 = 0 := fun t ht => if_neg (by omega)
  refine ⟨fun t d' ht hd' h6' => ?_, fun t d' h4' ht hd' h6' => absurd hd' (by omega), fun t h4' ht h6' => ?_, fun t ht h6' => ?_, fun t d' ht hd' h6' => ?_, fun t d' h4' ht hd' h6' => ?_⟩
  · rw [h t d' (by omega) h6', show d' = 0 by omega, if_neg (fun q => by rw [nl t ht] at q; omega), u0 t ht]
  · rw [h t 0 ht h6', if_pos ⟨ht, (ns t h4').symm⟩, if_pos (Nat.zero_le K), p0]
    unfold mv
    rw [if_pos h4']
  · rw [h t (0 + 1) (by omega) h6', if_pos ⟨by omega, by rw [nl t ht]⟩, p0]
    unfold mv
    rw [if_neg (by omega)]
  · rw [h t d' (by omega) h6', if_neg (fun q => by rw [nl t ht] at q; omega)]
  · rw [h t d' ht h6', if_neg (fun q => by rw [ns t h4'] at q; omega)]
/-- laid ahead, all -/
def AhI (w r : Nat → Nat) (K : Nat) (L : Lc) : Prop := ∀ t d, t < 6 → d ≤ K → L 77 (7 * t + d) = lN (bF w (uB w r d) t)
theorem AS_e {w r : Nat → Nat} {K : Nat} {L : Lc} {c : Nat → Nat} (hK : K ≤ 6) (h : AS w r K L 7 c) : AhI w r K L := fun t d ht hd => by
  have e : Ah w r K d t = bF w (uB w r d) t := if_pos hd
  rw [← e]
  by_cases h4 : t < 4
  · exact h.1 t d h4 (by omega) (by omega)
  · exact h.2.1 t d (by omega) ht (by omega) (by omega)
