def aTot (m : CM) : Nat := Sx' m.1 m.2.1 m.2.2 m.2.1 6
def aCnt (m : CM) : Nat := Cx' m.1 m.2.1 m.2.2 m.2.1 6
def remS (S : ST) (m : CM) : ST := (m, hcN S.2.1, hiN S.2.1 S.2.2.1 S.1, S.2.2.2)
def aGive (S : ST) (k c t v : Int32) : Int32 × ST := match rng k 3, rng v 4 with
  | some q, some u => (match idx q c t with
    | some i => if 0 < u ∧ (i = 28 ∨ i = 34 ∨ i = 35) then (-5, S) else (nI (S.1.1 i), remS S (upN S.1.1 i u, S.1.2))
    | none => (-1, S))
  | _, _ => (-2, S)
def aWeight (S : ST) (k c t : Int32) : Int32 := match rng k 3 with
  | some q => (match idx q c t with
    | some i => nI (S.1.1 i)
    | none => -1)
  | none => -2
def aAdd (S : ST) (x : Int32) : Int32 × ST := match rng x 4 with
  | some t => if S.1.2.1 = 6 then (-4, S) else (nI (S.1.2.1 + 1), remS S (S.1.1, S.1.2.1 + 1, upN S.1.2.2 S.1.2.1 t))
  | none => (-2, S)
def aCut (S : ST) : Int32 × ST := if S.1.2.1 = 0 then (-5, S) else (nI (S.1.2.2 (S.1.2.1 - 1)), remS S (S.1.1, S.1.2.1 - 1, S.1.2.2))
def aLetter (S : ST) (p : Int32) : Int32 := match rng p S.1.2.1 with
  | some i => nI (S.1.2.2 i)
  | none => -1
def aUndo (S : ST) : Int32 × ST := if S.2.1 = 0 then (-5, S) else (nI (S.2.1 - 1), (S.2.2.1 (S.2.1 - 1), S.2.1 - 1, S.2.2))
def aSave (S : ST) (x : Int32) : Int32 × ST := match rng x 2 with
  | some j => (nI S.1.2.1, (S.1, S.2.1, S.2.2.1, (fun i => if i = j then some S.1 else S.2.2.2.1 i), S.2.2.2.2))
  | none => (-2, S)
def aRestore (S : ST) (x : Int32) : Int32 × ST := match rng x 2 with
  | some j => (match S.2.2.2.1 j with
    | some m => (nI m.2.1, remS S m)
    | none => (-5, S))
  | none => (-2, S)
def aCount (S : ST) (x : Int32) : Int32 := match rng x 4 with
  | some 0 => nI S.1.2.1
  | some 1 => nI (cntW S.1.1 58)
  | some 2 => nI S.2.2.2.2.1
  | some 3 => nI S.2.1
  | _ => -2
theorem InvA_rem {n : Nat} {ad : Nat → Nat} {I I1 I2 : Ic} {L L2 : Lc} {R R1 : Rc} {w : Nat → Nat} {K : Nat} {ro : Nat → Nat} {hc : Nat} {hi : Nat → CM} {sv : Nat → Option CM} {pn : Nat} {ch : Nat → Nat} {pn2 : Nat} {ch2 : Nat → Nat} {m : CM} (h : InvA n I L R ((w, K, ro), hc, hi, sv, pn, ch)) (hlk : LkOK n R1) (hH : HiA I1 R1 (hcN hc) (hiN hc hi (w, K, ro))) (hS : SvA n I1 R1 sv) (hRf : ∀ a, a ≠ 4 → R1 a = R a) (hf : ∀ a, a ≠ 0 → (a < 53 ∨ 70 < a) → I1 a = I a) (hm : MdI I2 m.1 m.2.1 m.2.2) (h2 : ∀ a, a = 0 ∨ 53 ≤ a → I2 a = I1 a) (hSI : SI L2) (hP : PadI I2 pn2 ch2) (hL : ∀ a, 52 < a → L2 a = L a) : PA n ad I L R (m, hcN hc, hiN hc hi (w, K, ro), sv, pn2, ch2) (n, ad, I2, L2, R1) :=
  ⟨⟨h.1, hlk, hm, hSI, hP, HiA_fr hH (h2 0 (Or.inl rfl)) (fun a h1 _ => h2 a (by omega)), SvA_fr hS (fun a ha => h2 a (by omega))⟩, ⟨rfl, rfl⟩, fun a h3 => ⟨by show I2 a = _; rw [h2 a (by omega)]; exact hf a (by omega) (by omega), hL a (by omega), hRf a (by omega)⟩⟩
theorem Wok_u2 {w : Nat → Nat} {i u : Nat} (h : Wok w) (hu : u ≤ 3) (hb : ¬ (0 < u ∧ (i = 28 ∨ i = 34 ∨ i = 35))) : Wok (upN w i u) := by
  refine ⟨fun j => ?_, ?_, ?_, ?_⟩
  · unfold upN; split
    · exact hu
    · exact h.1 j
  all_goals
    unfold upN; split
    · omega
    · first | exact h.2.1 | exact h.2.2.1 | exact h.2.2.2
theorem MdI_w2 {I : Ic} {w : Nat → Nat} {K : Nat} {ro : Nat → Nat} {i u : Nat} (h : MdI I w K ro) (hi : i < 58) (hw : Wok (upN w i u)) : MdI (up2 I 2 i (nI u)) (upN w i u) K ro := by
  refine ⟨fun j hj => ?_, by rw [up2_ne (by decide)]; exact h.2.1, fun j hj => by rw [up2_ne (by decide)]; exact h.2.2.1 j hj, h.2.2.2.1, hw, h.2.2.2.2.2⟩
  rw [up2_at]; unfold upN
  by_cases e : j = i
  · rw [if_pos ⟨rfl, e⟩, if_pos e]
  · rw [if_neg (fun q => e q.2), if_neg e]; exact h.1 j hj
theorem MdI_ap {I : Ic} {w : Nat → Nat} {K t : Nat} {ro : Nat → Nat} (h : MdI I w K ro) (hk : K < 6) (ht : t < 4) : MdI (up2 (up2 I 3 K (nI t)) 1 2 (nI (K + 1))) w (K + 1) (upN ro K t) := by
  refine ⟨fun j hj => by rw [up2_ne (by decide), up2_ne (by decide)]; exact h.1 j hj, by rw [up2_at, if_pos ⟨rfl, rfl⟩], fun j hj => ?_, by omega, h.2.2.2.2.1, fun j => ?_⟩
  · rw [up2_ne (by decide), up2_at]; unfold upN
    by_cases e : j = K
    · rw [if_pos ⟨rfl, e⟩, if_pos e]
    · rw [if_neg (fun q => e q.2), if_neg e]; exact h.2.2.1 j (by omega)
  · unfold upN; split
    · exact ht
    · exact h.2.2.2.2.2 j
theorem MdI_cut {I : Ic} {w : Nat → Nat} {K : Nat} {ro : Nat → Nat} (h : MdI I w K ro) : MdI (up2 I 1 2 (nI (K - 1))) w (K - 1) ro :=
  ⟨fun j hj => by rw [up2_ne (by decide)]; exact h.1 j hj, by rw [up2_at, if_pos ⟨rfl, rfl⟩], fun j hj => by rw [up2_ne (by decide)]; exact h.2.2.1 j (by omega), by have := h.2.2.2.1; omega, h.2.2.2.2⟩
theorem idx_b {q : Nat} {c t : Int32} {i : Nat} (h : idx q c t = some i) (hq : q = 1) : ∃ a b, a < 6 ∧ b < 6 ∧ c = nI a ∧ t = nI b ∧ i = a * 6 + b := by
  subst hq
  unfold idx at h
  rw [if_neg (by decide), if_pos rfl] at h
  split at h
  · rename_i a b ha hb
    cases h
    have h1 := rng_some ha (by decide)
    have h2 := rng_some hb (by decide)
    exact ⟨a, b, h1.1, h2.1, h1.2, h2.2, rfl⟩
  · cases h
theorem idx_n {q : Nat} {c t : Int32} {i : Nat} (h : idx q c t = some i) (hq : q < 3) (h1 : q ≠ 1) : 36 ≤ i := by
  have : q = 0 ∨ q = 2 := by omega
  unfold idx at h
  rcases this with rfl | rfl
  · rw [if_pos rfl] at h
    split at h
    · cases h; omega
    · cases h
  · rw [if_neg (by decide), if_neg (by decide)] at h
    split at h
    · cases h; omega
    · cases h
theorem bar_i {a b : Nat} (ha : a < 6) (hb : b < 6) : barred a b ↔ (a * 6 + b = 28 ∨ a * 6 + b = 34 ∨ a * 6 + b = 35) := by unfold barred; omega
theorem nI_i2 {a b : Nat} (h : nI a = nI b) (ha : a < 2 ^ 31) (hb : b < 2 ^ 31) : a = b := by
  have h1 := congrArg Int32.toInt h
  rw [nI_toInt ha, nI_toInt hb] at h1
  omega
theorem bar_n {q i u : Nat} {c t : Int32} (h : idx q c t = some i) (hq : q < 3) (h1 : q ≠ 1) : ¬ (0 < u ∧ (i = 28 ∨ i = 34 ∨ i = 35)) := by
  have := idx_n h hq h1
  omega
