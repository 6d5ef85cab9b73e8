/-- the pad: its length and its signs -/
def PadI (I : Ic) (pn : Nat) (ch : Nat → Nat) : Prop := I 6 1 = nI pn ∧ pn ≤ 80 ∧ (∀ j, j < pn → I 7 j = nI (ch j)) ∧ ∀ j, 33 ≤ ch j ∧ ch j ≤ 126
def upN (f : Nat → Nat) (i x : Nat) : Nat → Nat := fun j => if j = i then x else f j
/-- a reader's state: where it is in a part, coin, the other number, letters, the weights, the row, parts ended -/
abbrev Sg : Type := Nat × Nat × Nat × Nat × (Nat → Nat) × Nat × (Nat → Nat) × Nat
def stp (σ : Sg) (c : Nat) : Option Sg := match σ with
  | (q, a, b, m, w, K, ro, p) =>
    if q = 0 then (if c = 64 then some (1, a, b, m, w, K, ro, p) else if 48 ≤ c ∧ c ≤ 53 then some (3, c - 48, b, m, w, K, ro, p) else if c = 33 then some (8, a, b, 0, w, 0, ro, p) else none)
    else if q = 1 then (if 48 ≤ c ∧ c ≤ 53 then some (2, c - 48, b, m, w, K, ro, p) else none)
    else if q = 2 then (if 48 ≤ c ∧ c ≤ 51 then some (9, a, b, m, upN w (36 + a) (c - 48), K, ro, p) else none)
    else if q = 3 then (if c = 62 then some (4, a, b, m, w, K, ro, p) else if c = 61 ∧ a < 4 then some (6, a, b, m, w, K, ro, p) else none)
    else if q = 4 then (if 48 ≤ c ∧ c ≤ 53 then some (5, a, c - 48, m, w, K, ro, p) else none)
    else if q = 5 then (if 48 ≤ c ∧ c ≤ 51 ∧ (c = 48 ∨ ¬ (4 ≤ a ∧ 4 ≤ b ∧ b ≤ a)) then some (9, a, b, m, upN w (a * 6 + b) (c - 48), K, ro, p) else none)
    else if q = 6 then (if 97 ≤ c ∧ c ≤ 100 then some (7, a, c - 97, m, w, K, ro, p) else none)
    else if q = 7 then (if 48 ≤ c ∧ c ≤ 51 then some (9, a, b, m, upN w (42 + a * 4 + b) (c - 48), K, ro, p) else none)
    else if q = 8 then (if 97 ≤ c ∧ c ≤ 100 ∧ m < 6 then some (8, a, b, m + 1, w, m + 1, upN ro m (c - 97), p) else if c = 59 then some (0, a, b, m, w, K, ro, p + 1) else none)
    else (if c = 59 then some (0, a, b, m, w, K, ro, p + 1) else none)
def stT (ch : Nat → Nat) (s0 : Sg) : Nat → Option Sg
  | 0 => some s0
  | i + 1 => (stT ch s0 i).bind (fun σ => stp σ (ch i))
theorem stT_s {ch : Nat → Nat} {s0 : Sg} {i : Nat} {σ : Sg} (h : stT ch s0 i = some σ) : stT ch s0 (i + 1) = stp σ (ch i) := by
  show (stT ch s0 i).bind _ = _
  rw [h]; rfl
theorem stT_n {ch : Nat → Nat} {s0 : Sg} {i : Nat} (h : stT ch s0 i = none) : ∀ j, stT ch s0 (i + j) = none
  | 0 => h
  | j + 1 => by
    show (stT ch s0 (i + j)).bind _ = none
    rw [stT_n h j]; rfl
/-- the fault of a text -/
def FL (pn : Nat) (ch : Nat → Nat) (s0 : Sg) (i : Nat) : Prop := ∃ σ, stT ch s0 i = some σ ∧ ((i < pn ∧ stp σ (ch i) = none) ∨ (i = pn ∧ σ.1 < 8))
def OKT (pn : Nat) (ch : Nat → Nat) (s0 σ : Sg) : Prop := stT ch s0 pn = some σ ∧ 8 ≤ σ.1
theorem FL_OK {pn : Nat} {ch : Nat → Nat} {s0 σ : Sg} {i : Nat} (h : FL pn ch s0 i) (h2 : OKT pn ch s0 σ) : False := by
  obtain ⟨τ, h1, h3⟩ := h
  rcases h3 with ⟨h3, h4⟩ | ⟨h3, h4⟩
  · have e := stT_s h1
    rw [h4] at e
    have := stT_n e (pn - (i + 1))
    rw [show i + 1 + (pn - (i + 1)) = pn by omega, h2.1] at this
    cases this
  · subst h3
    have e := Option.some.inj (h1.symm.trans h2.1)
    rw [e] at h4
    have := h2.2
    omega
theorem FL_one {pn : Nat} {ch : Nat → Nat} {s0 : Sg} {i j : Nat} (h : FL pn ch s0 i) (h2 : FL pn ch s0 j) : i = j := by
  have key : ∀ {i j : Nat}, FL pn ch s0 i → FL pn ch s0 j → ¬ i < j := by
    intro i j h h2 hij
    obtain ⟨τ, h1, h3⟩ := h
    obtain ⟨τ2, g1, g3⟩ := h2
    have hj : j ≤ pn := by rcases g3 with g | g <;> omega
    rcases h3 with ⟨h3, h4⟩ | ⟨h3, h4⟩
    · have e := stT_s h1
      rw [h4] at e
      have := stT_n e (j - (i + 1))
      rw [show i + 1 + (j - (i + 1)) = j by omega, g1] at this
      cases this
    · omega
  have := key h h2
  have := key h2 h
  omega
theorem OKT_one {pn : Nat} {ch : Nat → Nat} {s0 σ τ : Sg} (h : OKT pn ch s0 σ) (h2 : OKT pn ch s0 τ) : σ = τ := Option.some.inj (h.1.symm.trans h2.1)
/-- the reader stands before sign i in state σ; b: it gives what it reads -/
def PE (b : Bool) (pn : Nat) (ch : Nat → Nat) (s0 : Sg) (I0 : Ic) (i : Nat) (σ : Sg) (I : Ic) : Prop :=
  stT ch s0 i = some σ ∧ i ≤ pn ∧ PadI I pn ch ∧ I 6 2 = nI i ∧ (if b = true then MdI I σ.2.2.2.2.1 σ.2.2.2.2.2.1 σ.2.2.2.2.2.2.1 else I 1 = I0 1 ∧ I 2 = I0 2 ∧ I 3 = I0 3) ∧ ∀ a, a ≠ 1 → a ≠ 2 → a ≠ 3 → a ≠ 6 → I a = I0 a
def PFl (b : Bool) (pn : Nat) (ch : Nat → Nat) (s0 : Sg) (I0 I : Ic) : Prop := ∃ i, FL pn ch s0 i ∧ i ≤ pn ∧ I 6 2 = nI i ∧ PadI I pn ch ∧ (b = false → I 1 = I0 1 ∧ I 2 = I0 2 ∧ I 3 = I0 3) ∧ ∀ a, a ≠ 1 → a ≠ 2 → a ≠ 3 → a ≠ 6 → I a = I0 a
theorem PE_f {b : Bool} {pn : Nat} {ch : Nat → Nat} {s0 σ : Sg} {I0 I : Ic} {i : Nat} (h : PE b pn ch s0 I0 i σ I) (hf : (i < pn ∧ stp σ (ch i) = none) ∨ (i = pn ∧ σ.1 < 8)) : PFl b pn ch s0 I0 I :=
  ⟨i, ⟨σ, h.1, hf⟩, h.2.1, h.2.2.2.1, h.2.2.1, fun hb => by have := h.2.2.2.2.1; rw [hb] at this; exact this, h.2.2.2.2.2⟩
theorem PE_fq {b : Bool} {pn : Nat} {ch : Nat → Nat} {s0 σ : Sg} {I0 I : Ic} {i : Nat} (h : PE b pn ch s0 I0 i σ I) (hq : σ.1 < 8) {lo hi : Nat} (hs : ∀ c, ¬ (lo ≤ c ∧ c ≤ hi) → stp σ c = none) (hn : ¬ (i < pn ∧ lo ≤ ch i ∧ ch i ≤ hi)) : PFl b pn ch s0 I0 I := by
  refine PE_f h ?_
  by_cases e : i < pn
  · exact Or.inl ⟨e, hs _ (fun q => hn ⟨e, q⟩)⟩
  · exact Or.inr ⟨by have := h.2.1; omega, hq⟩
theorem PadI_at {I : Ic} {pn : Nat} {ch : Nat → Nat} (h : PadI I pn ch) (j : Nat) (hj : j = 2 ∨ j = 3) (x : Int32) : PadI (up2 I 6 j x) pn ch :=
  ⟨by rw [up2_at, if_neg (by omega)]; exact h.1, h.2.1, fun q hq => by rw [up2_ne (by decide)]; exact h.2.2.1 q hq, h.2.2.2⟩
theorem PadI_lo {I I1 : Ic} {pn : Nat} {ch : Nat → Nat} (h : PadI I pn ch) (h6 : I1 6 = I 6) (h7 : I1 7 = I 7) : PadI I1 pn ch :=
  ⟨by rw [h6]; exact h.1, h.2.1, fun q hq => by rw [h7]; exact h.2.2.1 q hq, h.2.2.2⟩
/-- a sign is read, and nothing given -/
theorem PE_s {b : Bool} {pn : Nat} {ch : Nat → Nat} {s0 : Sg} {I0 I : Ic} {i q a c m p q' a' c' m' p' : Nat} {w : Nat → Nat} {K : Nat} {ro : Nat → Nat} (h : PE b pn ch s0 I0 i (q, a, c, m, w, K, ro, p) I) (hi : i < pn) (hs : stp (q, a, c, m, w, K, ro, p) (ch i) = some (q', a', c', m', w, K, ro, p')) : PE b pn ch s0 I0 (i + 1) (q', a', c', m', w, K, ro, p') (up2 I 6 2 (nI (i + 1))) := by
  refine ⟨by rw [stT_s h.1]; exact hs, hi, PadI_at h.2.2.1 2 (Or.inl rfl) _, by rw [up2_at, if_pos ⟨rfl, rfl⟩], ?_, fun a h1 h2 h3 h6 => by rw [up2_ne h6]; exact h.2.2.2.2.2 a h1 h2 h3 h6⟩
  have h5 := h.2.2.2.2.1
  cases b with
  | true => exact MdI_lo h5 (fun a ha => up2_ne (by omega))
  | false => exact ⟨by rw [up2_ne (by decide)]; exact h5.1, by rw [up2_ne (by decide)]; exact h5.2.1, by rw [up2_ne (by decide)]; exact h5.2.2⟩
theorem MdI_w {I : Ic} {w : Nat → Nat} {K : Nat} {ro : Nat → Nat} {j x : Nat} (h : MdI I w K ro) (hw : Wok (upN w j x)) : MdI (up2 I 2 j (nI x)) (upN w j x) K ro := by
  refine ⟨fun i hi => ?_, by rw [up2_ne (by decide)]; exact h.2.1, fun q hq => by rw [up2_ne (by decide)]; exact h.2.2.1 q hq, h.2.2.2.1, hw, h.2.2.2.2.2⟩
  rw [up2_at]
  unfold upN
  by_cases e : i = j
  · rw [if_pos ⟨rfl, e⟩, if_pos e]
  · rw [if_neg (fun z => e z.2), if_neg e]; exact h.1 i hi
/-- a weight is read: given .. -/
theorem PE_w {pn : Nat} {ch : Nat → Nat} {s0 : Sg} {I0 I : Ic} {i q a c m p q' j : Nat} {w : Nat → Nat} {K : Nat} {ro : Nat → Nat} (h : PE true pn ch s0 I0 i (q, a, c, m, w, K, ro, p) I) (hi : i < pn) (hw : Wok (upN w j (ch i - 48))) (hs : stp (q, a, c, m, w, K, ro, p) (ch i) = some (q', a, c, m, upN w j (ch i - 48), K, ro, p)) : PE true pn ch s0 I0 (i + 1) (q', a, c, m, upN w j (ch i - 48), K, ro, p) (up2 (up2 I 6 2 (nI (i + 1))) 2 j (nI (ch i - 48))) := by
  refine ⟨by rw [stT_s h.1]; exact hs, hi, PadI_lo (PadI_at h.2.2.1 2 (Or.inl rfl) (nI (i + 1))) (up2_ne (by decide)) (up2_ne (by decide)), by rw [up2_ne (by decide), up2_at, if_pos ⟨rfl, rfl⟩], ?_, fun a h1 h2 h3 h6 => by rw [up2_ne h2, up2_ne h6]; exact h.2.2.2.2.2 a h1 h2 h3 h6⟩
  have h5 : MdI I w K ro := h.2.2.2.2.1
  exact MdI_w (MdI_lo h5 (fun a ha => up2_ne (by omega))) hw
/-- .. or not -/
theorem PE_v {pn : Nat} {ch : Nat → Nat} {s0 σ : Sg} {I0 I : Ic} {i q a c m p : Nat} {w : Nat → Nat} {K : Nat} {ro : Nat → Nat} (h : PE false pn ch s0 I0 i (q, a, c, m, w, K, ro, p) I) (hi : i < pn) (hs : stp (q, a, c, m, w, K, ro, p) (ch i) = some σ) : PE false pn ch s0 I0 (i + 1) σ (up2 I 6 2 (nI (i + 1))) := by
  refine ⟨by rw [stT_s h.1]; exact hs, hi, PadI_at h.2.2.1 2 (Or.inl rfl) _, by rw [up2_at, if_pos ⟨rfl, rfl⟩], ?_, fun a h1 h2 h3 h6 => by rw [up2_ne h6]; exact h.2.2.2.2.2 a h1 h2 h3 h6⟩
  have h5 := h.2.2.2.2.1
  exact ⟨by rw [up2_ne (by decide)]; exact h5.1, by rw [up2_ne (by decide)]; exact h5.2.1, by rw [up2_ne (by decide)]; exact h5.2.2⟩
theorem Wok_up {w : Nat → Nat} (hw : Wok w) {j x : Nat} (hx : x ≤ 3) (hj : x = 0 ∨ (j ≠ 28 ∧ j ≠ 34 ∧ j ≠ 35)) : Wok (upN w j x) := by
  refine ⟨fun i => ?_, ?_, ?_, ?_⟩
  · unfold upN; split
    · exact hx
    · exact hw.1 i
  · unfold upN; split
    · omega
    · exact hw.2.1
  · unfold upN; split
    · omega
    · exact hw.2.2.1
  · unfold upN; split
    · omega
    · exact hw.2.2.2
