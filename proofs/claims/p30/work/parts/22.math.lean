/-- what changes are made on: weights, length, row -/
abbrev CM : Type := (Nat → Nat) × Nat × (Nat → Nat)
abbrev CM.w (m : CM) : Nat → Nat := m.1
abbrev CM.K (m : CM) : Nat := m.2.1
abbrev CM.ro (m : CM) : Nat → Nat := m.2.2
/-- the state: the model, how many are remembered and which, the slots, the pad -/
abbrev ST : Type := CM × Nat × (Nat → CM) × (Nat → Option CM) × Nat × (Nat → Nat)
abbrev ST.c (S : ST) : CM := S.1
abbrev ST.hc (S : ST) : Nat := S.2.1
abbrev ST.hi (S : ST) : Nat → CM := S.2.2.1
abbrev ST.sv (S : ST) : Nat → Option CM := S.2.2.2.1
abbrev ST.pn (S : ST) : Nat := S.2.2.2.2.1
abbrev ST.ch (S : ST) : Nat → Nat := S.2.2.2.2.2
def MdA (I : Ic) (x : Nat) (m : CM) : Prop := (∀ i, i < 58 → I (x + 1) i = nI (m.w i)) ∧ I x 2 = nI m.K ∧ (∀ j, j < m.K → I (x + 2) j = nI (m.ro j)) ∧ m.K ≤ 6 ∧ Wok m.w ∧ ∀ j, m.ro j < 4
theorem MdA_fr {I I1 : Ic} {x : Nat} {m : CM} (h : MdA I x m) (h0 : I1 x = I x) (h1 : I1 (x + 1) = I (x + 1)) (h2 : I1 (x + 2) = I (x + 2)) : MdA I1 x m :=
  ⟨fun i hi => by rw [h1]; exact h.1 i hi, by rw [h0]; exact h.2.1, fun j hj => by rw [h2]; exact h.2.2.1 j hj, h.2.2.2⟩
/-- the states that were remembered lie behind history's references -/
def HiA (I : Ic) (R : Rc) (hc : Nat) (hi : Nat → CM) : Prop := I 0 2 = nI hc ∧ hc ≤ 6 ∧ ∃ hm : Nat → Nat, (∀ i, i < 6 → hm i < 6 ∧ R 4 i = some (53 + 3 * hm i)) ∧ (∀ i j, i < 6 → j < 6 → hm i = hm j → i = j) ∧ ∀ i, i < hc → MdA I (53 + 3 * hm i) (hi i)
/-- no reference leads out of the world -/
def Cl (n : Nat) (R : Rc) : Prop := ∀ k j y, k < n → R k j = some y → y < n
def SvA (n : Nat) (_I : Ic) (R : Rc) (sv : Nat → Option CM) : Prop := (∀ i, i < 2 → sv i = none ∧ R 5 i = none) ∧ Cl 71 R ∧ 71 ≤ n
def InvA (n : Nat) (I : Ic) (L : Lc) (R : Rc) (S : ST) : Prop := 71 ≤ n ∧ LkOK n R ∧ MdI I S.c.w S.c.K S.c.ro ∧ SI L ∧ PadI I S.pn S.ch ∧ HiA I R S.hc S.hi ∧ SvA n I R S.sv
theorem HiA_fr {I I1 : Ic} {R : Rc} {hc : Nat} {hi : Nat → CM} (h : HiA I R hc hi) (h0 : I1 0 = I 0) (h1 : ∀ a, 53 ≤ a → a ≤ 70 → I1 a = I a) : HiA I1 R hc hi := by
  obtain ⟨a1, a2, hm, b1, b2, b3⟩ := h
  refine ⟨by rw [h0]; exact a1, a2, hm, b1, b2, fun i hi => ?_⟩
  have := (b1 i (by omega)).1
  exact MdA_fr (b3 i hi) (h1 _ (by omega) (by omega)) (h1 _ (by omega) (by omega)) (h1 _ (by omega) (by omega))
theorem SvA_fr {n : Nat} {I I1 : Ic} {R : Rc} {sv : Nat → Option CM} (h : SvA n I R sv) (_h1 : ∀ a, 83 ≤ a → I1 a = I a) : SvA n I1 R sv := h
/-- what a call of the class leaves: its state, the cells as they are named, the other side's cells as they were -/
def PA (n : Nat) (ad : Nat → Nat) (I : Ic) (L : Lc) (R : Rc) (S : ST) (u : Sx) : Prop := InvA u.1 u.2.2.1 u.2.2.2.1 u.2.2.2.2 S ∧ (n = u.1 ∧ ad = u.2.1) ∧ ∀ a, 71 ≤ a → u.2.2.1 a = I a ∧ u.2.2.2.1 a = L a ∧ u.2.2.2.2 a = R a
theorem PA_q {n : Nat} {ad : Nat → Nat} {I I1 : Ic} {L L1 : Lc} {R : Rc} {S : ST} (h : InvA n I L R S) (hI : ∀ a, a < 42 ∨ 50 < a → I1 a = I a) (hSI : SI L1) (hL : ∀ a, 52 < a → L1 a = L a) : PA n ad I L R S (n, ad, I1, L1, R) :=
  ⟨⟨h.1, h.2.1, MdI_lo h.2.2.1 (fun a ha => hI a (by omega)), hSI, PadI_lo h.2.2.2.2.1 (hI 6 (by omega)) (hI 7 (by omega)), HiA_fr h.2.2.2.2.2.1 (hI 0 (by omega)) (fun a h1 h2 => hI a (by omega)), SvA_fr h.2.2.2.2.2.2 (fun a h1 => hI a (by omega))⟩, ⟨rfl, rfl⟩, fun a h1 => ⟨hI a (by omega), hL a (by omega), rfl⟩⟩
theorem PA_0 {n : Nat} {ad : Nat → Nat} {I : Ic} {L : Lc} {R : Rc} {S : ST} (h : InvA n I L R S) : PA n ad I L R S (n, ad, I, L, R) := ⟨h, ⟨rfl, rfl⟩, fun _ _ => ⟨rfl, rfl, rfl⟩⟩
-- remembering
def hcN (hc : Nat) : Nat := if hc = 6 then 6 else hc + 1
def hiN (hc : Nat) (hi : Nat → CM) (m : CM) : Nat → CM := if hc = 6 then fun i => if i = 5 then m else hi (i + 1) else fun i => if i = hc then m else hi i
theorem cpM_ne {I : Ic} {x y a : Nat} (h0 : a ≠ x) (h1 : a ≠ x + 1) (h2 : a ≠ x + 2) : cpM I x y a = I a := by
  show up2 _ x 2 _ a = _
  rw [up2_ne h0]
  show (if a = x + 2 then _ else (if a = x + 1 then _ else I a)) = _
  rw [if_neg h2, if_neg h1]
theorem cpM_md {I : Ic} {x y : Nat} {m : CM} (h : MdA I y m) (hxy : x + 2 < y ∨ y + 2 < x) : MdA (cpM I x y) x m := by
  refine ⟨fun i hi => ?_, ?_, fun j hj => ?_, h.2.2.2⟩
  · show up2 _ x 2 _ (x + 1) i = _
    rw [up2_ne (by omega), cpr_at, if_neg (by omega), cpr_at, if_pos ⟨rfl, hi⟩]; exact h.1 i hi
  · show up2 _ x 2 _ x 2 = _
    rw [up2_at, if_pos ⟨rfl, rfl⟩, cpr_at, if_neg (by omega), cpr_at, if_neg (by omega)]; exact h.2.1
  · have hk := h.2.2.2.1
    show up2 _ x 2 _ (x + 2) j = _
    rw [up2_ne (by omega), cpr_at, if_pos ⟨rfl, by omega⟩, cpr_at, if_neg (by omega)]; exact h.2.2.1 j hj
/-- the rotated references -/
def RotS (R R1 : Rc) (hm : Nat → Nat) (i : Nat) : Prop := (∀ j, j < 6 → R1 4 j = some (53 + 3 * (if j + 1 < i then hm (j + 1) else hm j))) ∧ (∀ a, a ≠ 4 → R1 a = R a) ∧ ∀ j, 6 ≤ j → R1 4 j = R 4 j
theorem RotS_s {R R1 : Rc} {hm : Nat → Nat} {i : Nat} (h : RotS R R1 hm i) (h1 : 1 ≤ i) (h6 : i < 6) : RotS R (up2 R1 4 (i - 1) (some (53 + 3 * hm i))) hm (i + 1) := by
  refine ⟨fun j hj => ?_, fun a ha => by rw [up2_ne ha]; exact h.2.1 a ha, fun j hj => by rw [up2_at, if_neg (by omega)]; exact h.2.2 j hj⟩
  rw [up2_at]
  by_cases e : j = i - 1
  · rw [if_pos ⟨rfl, e⟩, if_pos (by omega), show j + 1 = i by omega]
  · rw [if_neg (fun q => e q.2), h.1 j hj]
    by_cases e2 : j + 1 < i
    · rw [if_pos e2, if_pos (by omega)]
    · rw [if_neg e2, if_neg (by omega)]
theorem LkOK_4 {n : Nat} {R R1 : Rc} (h : LkOK n R) (h1 : ∀ a, a ≠ 4 → a ≠ 5 → R1 a = R a) : LkOK n R1 := fun a j y ha hl => by
  by_cases e : a = 4
  · subst e; unfold lkf at hl; rw [kd_4] at hl; cases hl
  · by_cases e5 : a = 5
    · subst e5; unfold lkf at hl; rw [kd_5] at hl; cases hl
    · rw [h1 a e e5]; exact h a j y ha hl
/-- the last of remembering: hm' gives the references, hc' < 6 states are behind them -/
theorem HiA_add {I : Ic} {R1 : Rc} {hm : Nat → Nat} {hc : Nat} {hi : Nat → CM} {m : CM} (h6 : hc < 6) (h1 : ∀ i, i < 6 → hm i < 6 ∧ R1 4 i = some (53 + 3 * hm i)) (h2 : ∀ i j, i < 6 → j < 6 → hm i = hm j → i = j) (h3 : ∀ i, i < hc → MdA I (53 + 3 * hm i) (hi i)) (hm1 : MdA I 1 m) : HiA (up2 (cpM I (53 + 3 * hm hc) 1) 0 2 (nI (hc + 1))) R1 (hc + 1) (fun i => if i = hc then m else hi i) := by
  refine ⟨by rw [up2_at, if_pos ⟨rfl, rfl⟩], by omega, hm, h1, h2, fun i hlt => ?_⟩
  refine MdA_fr (I := cpM I (53 + 3 * hm hc) 1) ?_ (up2_ne (by omega)) (up2_ne (by omega)) (up2_ne (by omega))
  show MdA _ _ (if i = hc then m else hi i)
  by_cases e : i = hc
  · rw [if_pos e, e]; exact cpM_md hm1 (by omega)
  · rw [if_neg e]
    have hne : hm i ≠ hm hc := fun q => e (h2 i hc (by omega) h6 q)
    exact MdA_fr (h3 i (by omega)) (cpM_ne (by omega) (by omega) (by omega)) (cpM_ne (by omega) (by omega) (by omega)) (cpM_ne (by omega) (by omega) (by omega))
/-- what remembering leaves -/
def RemP (n : Nat) (ad : Nat → Nat) (I : Ic) (L : Lc) (hc : Nat) (hi : Nat → CM) (sv : Nat → Option CM) (R : Rc) (m : CM) (n1 : Nat) (ad1 : Nat → Nat) (I1 : Ic) (L1 : Lc) (R1 : Rc) : Prop := n = n1 ∧ ad = ad1 ∧ L = L1 ∧ LkOK n R1 ∧ HiA I1 R1 (hcN hc) (hiN hc hi m) ∧ SvA n I1 R1 sv ∧ (∀ a, a ≠ 0 → (a < 53 ∨ 70 < a) → I1 a = I a) ∧ ∀ a, a ≠ 4 → R1 a = R a
theorem SvA_R {n : Nat} {I : Ic} {R R1 : Rc} {sv : Nat → Option CM} (h : SvA n I R sv) (h5 : R1 5 = R 5) (hc : Cl 71 R1) : SvA n I R1 sv := by
  unfold SvA at h ⊢
  rw [h5]
  exact ⟨h.1, hc, h.2.2⟩
theorem SvA_cl {n : Nat} {I : Ic} {R : Rc} {sv : Nat → Option CM} (h : SvA n I R sv) : Cl 71 R := h.2.1
def rotM (hm : Nat → Nat) : Nat → Nat := fun j => if j < 5 then hm (j + 1) else hm 0
theorem rem_lo {n : Nat} {ad : Nat → Nat} {I : Ic} {L : Lc} {R : Rc} {hc : Nat} {hi : Nat → CM} {sv : Nat → Option CM} {m : CM} {hm : Nat → Nat} (hlk : LkOK n R) (h6 : hc < 6) (h1 : ∀ i, i < 6 → hm i < 6 ∧ R 4 i = some (53 + 3 * hm i)) (h2 : ∀ i j, i < 6 → j < 6 → hm i = hm j → i = j) (h3 : ∀ i, i < hc → MdA I (53 + 3 * hm i) (hi i)) (hS : SvA n I R sv) (hm1 : MdA I 1 m) : RemP n ad I L hc hi sv R m n ad (up2 (cpM I (53 + 3 * hm hc) 1) 0 2 (nI (hc + 1))) L R := by
  have hb := (h1 hc h6).1
  have hf : ∀ a, a ≠ 0 → (a < 53 ∨ 70 < a) → up2 (cpM I (53 + 3 * hm hc) 1) 0 2 (nI (hc + 1)) a = I a := fun a ha hb2 => by rw [up2_ne ha]; exact cpM_ne (by omega) (by omega) (by omega)
  refine ⟨rfl, rfl, rfl, hlk, ?_, SvA_fr hS (fun a ha => hf a (by omega) (by omega)), hf, fun _ _ => rfl⟩
  unfold hcN hiN
  rw [if_neg (by omega), if_neg (by omega)]
  exact HiA_add h6 h1 h2 h3 hm1
theorem rem_hi {n : Nat} {ad : Nat → Nat} {I : Ic} {L : Lc} {R R1 : Rc} {hc i : Nat} {hi : Nat → CM} {sv : Nat → Option CM} {m : CM} {hm : Nat → Nat} (hlk : LkOK n R) (h6 : hc = 6) (h1 : ∀ i, i < 6 → hm i < 6 ∧ R 4 i = some (53 + 3 * hm i)) (h2 : ∀ i j, i < 6 → j < 6 → hm i = hm j → i = j) (h3 : ∀ i, i < hc → MdA I (53 + 3 * hm i) (hi i)) (hS : SvA n I R sv) (hm1 : MdA I 1 m) (hR : RotS R R1 hm i) (hi6 : i = 6) : RemP n ad I L hc hi sv R m n ad (up2 (cpM (up2 I 0 2 (nI 5)) (53 + 3 * hm 0) 1) 0 2 (nI (5 + 1))) L (up2 R1 4 5 (some (53 + 3 * hm 0))) := by
  subst hi6
  have hb := (h1 0 (by omega)).1
  have e5 : rotM hm 5 = hm 0 := rfl
  have hf : ∀ a, a ≠ 0 → (a < 53 ∨ 70 < a) → up2 (cpM (up2 I 0 2 (nI 5)) (53 + 3 * hm 0) 1) 0 2 (nI (5 + 1)) a = I a := fun a ha hb2 => by rw [up2_ne ha, cpM_ne (by omega) (by omega) (by omega), up2_ne ha]
  have hRo : ∀ a, a ≠ 4 → up2 R1 4 5 (some (53 + 3 * hm 0)) a = R a := fun a ha => by rw [up2_ne ha]; exact hR.2.1 a ha
  have hcl := SvA_cl hS
  have hn70 : ∀ i, i < 6 → 53 + 3 * hm i < 71 := fun i hi => by have := (h1 i hi).1; omega
  have hclR : Cl 71 (up2 R1 4 5 (some (53 + 3 * hm 0))) := fun k j y hk hy => by
    by_cases ek : k = 4
    · subst ek
      rw [up2_at] at hy
      by_cases ej : j = 5
      · rw [if_pos ⟨rfl, ej⟩] at hy; cases hy; exact hn70 0 (by decide)
      · rw [if_neg (fun q => ej q.2)] at hy
        by_cases ej6 : j < 6
        · rw [hR.1 j ej6] at hy
          cases hy
          split
          · exact hn70 (j + 1) (by omega)
          · exact hn70 j ej6
        · rw [hR.2.2 j (by omega)] at hy
          exact hcl 4 j y hk hy
    · rw [hRo k ek] at hy; exact hcl k j y hk hy
  refine ⟨rfl, rfl, rfl, LkOK_4 hlk (fun a ha _ => hRo a ha), ?_, SvA_R (SvA_fr hS (fun a ha => hf a (by omega) (by omega))) (hRo 5 (by decide)) hclR, hf, hRo⟩
  unfold hcN hiN
  rw [if_pos h6, if_pos h6]
  have key := HiA_add (I := up2 I 0 2 (nI 5)) (R1 := up2 R1 4 5 (some (53 + 3 * hm 0))) (hm := rotM hm) (hc := 5) (hi := fun i => hi (i + 1)) (m := m) (by decide) (fun i hi => ?_) (fun i j hi hj h => ?_) (fun i hi => ?_) ?_
  · exact key
  · by_cases e : i < 5
    · have e1 : rotM hm i = hm (i + 1) := if_pos e
      rw [e1]
      refine ⟨(h1 (i + 1) (by omega)).1, ?_⟩
      rw [up2_at, if_neg (by omega), hR.1 i hi, if_pos (by omega)]
    · have e1 : rotM hm i = hm 0 := if_neg e
      rw [e1]
      exact ⟨hb, by rw [up2_at, if_pos ⟨rfl, by omega⟩]⟩
  · unfold rotM at h
    by_cases ei : i < 5
    · by_cases ej : j < 5
      · rw [if_pos ei, if_pos ej] at h; have := h2 _ _ (by omega) (by omega) h; omega
      · rw [if_pos ei, if_neg ej] at h; have := h2 _ _ (by omega) (by omega) h; omega
    · by_cases ej : j < 5
      · rw [if_neg ei, if_pos ej] at h; have := h2 _ _ (by omega) (by omega) h; omega
      · omega
  · have e1 : rotM hm i = hm (i + 1) := if_pos hi
    have hb3 := (h1 (i + 1) (by omega)).1
    rw [e1]
    exact MdA_fr (h3 (i + 1) (by omega)) (up2_ne (by omega)) (up2_ne (by omega)) (up2_ne (by omega))
  · exact MdA_fr hm1 (up2_ne (by decide)) (up2_ne (by decide)) (up2_ne (by decide))
