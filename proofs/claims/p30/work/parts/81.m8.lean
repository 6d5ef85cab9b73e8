theorem aG_s {S : ST} {q v i : Nat} {c t : Int32} (hq : q < 3) (hv : v < 4) (hi : idx q c t = some i) (hb : ¬ (0 < v ∧ (i = 28 ∨ i = 34 ∨ i = 35))) : aGive S (nI q) c t (nI v) = (nI (S.1.1 i), remS S (upN S.1.1 i v, S.1.2)) := by
  unfold aGive
  rw [rng_nI hq (by decide), rng_nI hv (by decide)]
  simp only [hi]
  exact if_neg hb
theorem aG_b {S : ST} {q v i : Nat} {c t : Int32} (hq : q < 3) (hv : v < 4) (hi : idx q c t = some i) (hb : 0 < v ∧ (i = 28 ∨ i = 34 ∨ i = 35)) : aGive S (nI q) c t (nI v) = (-5, S) := by
  unfold aGive
  rw [rng_nI hq (by decide), rng_nI hv (by decide)]
  simp only [hi]
  exact if_pos hb
theorem aG_n {S : ST} {q v : Nat} {c t : Int32} (hq : q < 3) (hv : v < 4) (hi : idx q c t = none) : aGive S (nI q) c t (nI v) = (-1, S) := by
  unfold aGive
  rw [rng_nI hq (by decide), rng_nI hv (by decide)]
  simp only [hi]
theorem aW_n {S : ST} {q : Nat} {c t : Int32} (hq : q < 3) (hi : idx q c t = none) : aWeight S (nI q) c t = -1 := by
  unfold aWeight
  rw [rng_nI hq (by decide)]
  simp only [hi]
theorem ix2n {c t : Nat} (hc : c < 7) (ht : t < 7) (h : ¬ (c < 4 ∧ t < 4)) : idx 2 (nI c) (nI t) = none := by
  unfold idx
  rw [if_neg (by decide), if_neg (by decide)]
  by_cases h4 : c < 4
  · rw [rng_nI h4 (by decide), rng_ge (k := t) (N := 4) (by omega) (by omega)]
  · rw [rng_ge (k := c) (N := 4) (by omega) (by omega)]
theorem aA_6 {S : ST} {t : Nat} (ht : t < 4) (h : S.1.2.1 = 6) : aAdd S (nI t) = (-4, S) := by unfold aAdd; rw [rng_nI ht (by decide)]; exact if_pos h
theorem aA_s {S : ST} {t : Nat} (ht : t < 4) (h : ¬ S.1.2.1 = 6) : aAdd S (nI t) = (nI (S.1.2.1 + 1), remS S (S.1.1, S.1.2.1 + 1, upN S.1.2.2 S.1.2.1 t)) := by unfold aAdd; rw [rng_nI ht (by decide)]; exact if_neg h
def GvP (n : Nat) (ad : Nat → Nat) (I : Ic) (L : Lc) (R : Rc) (u : Sx) : Prop := ∃ S : ST, PA n ad I L R S u
theorem GV_use {n n1 : Nat} {ad ad1 : Nat → Nat} {I I1 : Ic} {L L1 : Lc} {R R1 : Rc} {z : Int32} (h : z = nI 1 ∧ GvP n ad I L R (n1, ad1, I1, L1, R1)) : z = nI 1 ∧ n = n1 ∧ ad = ad1 ∧ ∃ S : ST, InvA n I1 L1 R1 S ∧ ∀ a, 71 ≤ a → I1 a = I a ∧ L1 a = L a ∧ R1 a = R a := by
  obtain ⟨h1, S, h2, ⟨h3, h4⟩, h5⟩ := h
  have h3 : n = n1 := h3
  subst h3
  exact ⟨h1, rfl, h4, S, h2, h5⟩
theorem in_k {i L : Nat} (h : i < L) (hL : L ≤ 2560) : vp_in (nI i) L := fun q => by
  have h1 : (nI i).toInt = i := nI_toInt (by omega)
  rcases q with q | q
  · have h2 := Int32.lt_iff_toInt_lt.mp q
    rw [h1, show (0 : Int32).toInt = 0 by decide] at h2
    omega
  · rw [nI_clamp (by omega)] at q
    omega
theorem nI_nz {d : Nat} (h0 : 0 < d) (hd : d < 2 ^ 31) : ¬ nI d = 0 := fun q => by
  have h1 := congrArg Int32.toInt q
  rw [nI_toInt hd, show (0 : Int32).toInt = 0 by decide] at h1
  omega
