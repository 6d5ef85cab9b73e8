-- what areAhead has laid so far
def AhC (w ro : Nat → Nat) (p c : Nat) (row : Nat → Int64) : Prop := ∀ q x, (q < p ∨ (q = p ∧ x < c)) → x < 4 → row (4 * q + x) = lN (uB w ro (q + 1) x)
def MaC (w ro : Nat → Nat) (p c : Nat) (row : Nat → Int32) : Prop := ∀ q x, (q < p ∨ (q = p ∧ x < c)) → x < 4 → row (4 * q + x) = nI (uB (wb w) ro (q + 1) x)
def BeC (w ro : Nat → Nat) (K j c : Nat) (row : Nat → Int64) : Prop := ∀ q x, (j ≤ q ∧ q < K ∨ (q + 1 = j ∧ x < c)) → x < 4 → row (4 * q + x) = lN (Sx' w K ro (K - (q + 1)) x)
theorem ahc {w ro : Nat → Nat} {p c : Nat} {r1 r2 : Nat → Int64} (h : r2 = r1) (h1 : AhC w ro p c r1) : AhC w ro p c r2 := by rw [h]; exact h1
theorem mac {w ro : Nat → Nat} {p c : Nat} {r1 r2 : Nat → Int32} (h : r2 = r1) (h1 : MaC w ro p c r1) : MaC w ro p c r2 := by rw [h]; exact h1
theorem bec {w ro : Nat → Nat} {K p c : Nat} {r1 r2 : Nat → Int64} (h : r2 = r1) (h1 : BeC w ro K p c r1) : BeC w ro K p c r2 := by rw [h]; exact h1
theorem AhC_0 (w ro : Nat → Nat) (row : Nat → Int64) : AhC w ro 0 0 row := fun q x h _ => by omega
theorem MaC_0 (w ro : Nat → Nat) (row : Nat → Int32) : MaC w ro 0 0 row := fun q x h _ => by omega
theorem BeC_0 (w ro : Nat → Nat) (K : Nat) (row : Nat → Int64) : BeC w ro K K 0 row := fun q x h _ => by omega
theorem AhC_s {w ro : Nat → Nat} {p c : Nat} {L : Lc} (h : AhC w ro p c (L 71)) (hc : c < 4) : AhC w ro p (c + 1) (up2 L 71 (4 * p + c) (lN (uB w ro (p + 1) c)) 71) := fun q x h1 h2 => by
  rw [up2_at]
  by_cases e : 4 * q + x = 4 * p + c
  · rw [if_pos ⟨rfl, e⟩, show q = p by omega, show x = c by omega]
  · rw [if_neg (fun z => e z.2)]; exact h q x (by omega) h2
theorem MaC_s {w ro : Nat → Nat} {p c : Nat} {I : Ic} (h : MaC w ro p c (I 73)) (hc : c < 4) : MaC w ro p (c + 1) (up2 I 73 (4 * p + c) (nI (uB (wb w) ro (p + 1) c)) 73) := fun q x h1 h2 => by
  rw [up2_at]
  by_cases e : 4 * q + x = 4 * p + c
  · rw [if_pos ⟨rfl, e⟩, show q = p by omega, show x = c by omega]
  · rw [if_neg (fun z => e z.2)]; exact h q x (by omega) h2
theorem BeC_s {w ro : Nat → Nat} {K j c : Nat} {L : Lc} (h : BeC w ro K j c (L 72)) (hj : 0 < j) (hc : c < 4) : BeC w ro K j (c + 1) (up2 L 72 (4 * (j - 1) + c) (lN (Sx' w K ro (K - (j - 1 + 1)) c)) 72) := fun q x h1 h2 => by
  rw [up2_at]
  by_cases e : 4 * q + x = 4 * (j - 1) + c
  · rw [if_pos ⟨rfl, e⟩, show q = j - 1 by omega, show x = c by omega]
  · rw [if_neg (fun z => e z.2)]; exact h q x (by omega) h2
theorem AhC_n {w ro : Nat → Nat} {p c : Nat} {row : Nat → Int64} (h : AhC w ro p c row) (hc : 4 ≤ c) : AhC w ro (p + 1) 0 row := fun q x h1 h2 => h q x (by omega) h2
theorem MaC_n {w ro : Nat → Nat} {p c : Nat} {row : Nat → Int32} (h : MaC w ro p c row) (hc : 4 ≤ c) : MaC w ro (p + 1) 0 row := fun q x h1 h2 => h q x (by omega) h2
theorem BeC_n {w ro : Nat → Nat} {K j c : Nat} {row : Nat → Int64} (h : BeC w ro K j c row) (hj : 0 < j) (hc : 4 ≤ c) : BeC w ro K (j - 1) 0 row := fun q x h1 h2 => h q x (by omega) h2
/-- what areAhead leaves -/
def AhP (w : Nat → Nat) (ro : Nat → Nat) (K : Nat) (S : ST) (ad : Nat → Nat) (u : Sx) : Prop := u.1 = 74 ∧ (∀ k, k < 73 → u.2.1 k = ad k) ∧ InvA 74 u.2.2.1 u.2.2.2.1 u.2.2.2.2 S ∧ (∀ p c, p < K → c < 4 → u.2.2.2.1 71 (4 * p + c) = lN (uB w ro (p + 1) c)) ∧ (∀ p c, p < K → c < 4 → u.2.2.2.1 72 (4 * p + c) = lN (Sx' w K ro (K - (p + 1)) c)) ∧ NoR u.2.2.2.2 71 74
theorem ways_T {w r : Nat → Nat} (hw : Wok w) {K : Nat} (hK : 0 < K) : Cx' w K r K 6 = fb_sm (fun c => uB (wb w) r K c) 4 := (congrFun (CxSx w K r K) 6).trans (Sx_sum (wb_ok hw) hK)
theorem ways_z (w r : Nat → Nat) : Cx' w 0 r 0 6 = 1 := rfl
theorem nm1 (a : Nat) : nI a + Int32.ofInt (-1) = nI a - nI 1 := by
  rw [Int32.sub_eq_add_neg]
  rfl
