def SwB (I : Ic) (sv : Nat → Option CM) : Prop := ∀ j, j < 2 → (∀ m, sv j = some m → I 75 j = nI 1 ∧ NwA (fun k => I 74 (70 * j + k)) m) ∧ (sv j = none → I 75 j = nI 0)
def PdB (I : Ic) (pn : Nat) (ch : Nat → Nat) : Prop := I 71 6 = nI pn ∧ pn ≤ 80 ∧ (∀ j, j < pn → I 76 j = nI (ch j)) ∧ ∀ j, 33 ≤ ch j ∧ ch j ≤ 126
def InvB (n : Nat) (I : Ic) (R : Rc) (S : ST) : Prop := 83 ≤ n ∧ LkOK n R ∧ NwA (I 72) S.1 ∧ HwB I S.2.1 S.2.2.1 ∧ SwB I S.2.2.2.1 ∧ PdB I S.2.2.2.2.1 S.2.2.2.2.2
/-- what a call of the model leaves -/
def PB (n : Nat) (I : Ic) (L : Lc) (R : Rc) (S : ST) (I1 : Ic) (L1 : Lc) : Prop := InvB n I1 R S ∧ ∀ a, a < 71 ∨ 83 ≤ a → I1 a = I a ∧ L1 a = L a
def RR (n : Nat) (I : Ic) (L : Lc) (R : Rc) (ans : Int32 × ST) (z : Int32) (I1 : Ic) (L1 : Lc) : Prop := z = ans.1 ∧ PB n I L R ans.2 I1 L1
def RRl (n : Nat) (I : Ic) (L : Lc) (R : Rc) (ans : Int64 × ST) (z : Int64) (I1 : Ic) (L1 : Lc) : Prop := z = ans.1 ∧ PB n I L R ans.2 I1 L1
theorem RR_i {n : Nat} {I : Ic} {L : Lc} {R : Rc} {ans a' : Int32 × ST} {z : Int32} {I1 : Ic} {L1 : Lc} (h : ans = a') (h2 : z = a'.1 ∧ PB n I L R a'.2 I1 L1) : RR n I L R ans z I1 L1 := by rw [h]; exact h2
theorem RR_l {n : Nat} {I : Ic} {L : Lc} {R : Rc} {ans a' : Int64 × ST} {z : Int64} {I1 : Ic} {L1 : Lc} (h : ans = a') (h2 : z = a'.1 ∧ PB n I L R a'.2 I1 L1) : RRl n I L R ans z I1 L1 := by rw [h]; exact h2
theorem PB_0 {n : Nat} {I : Ic} {L : Lc} {R : Rc} {S : ST} (h : InvB n I R S) : PB n I L R S I L := ⟨h, fun _ _ => ⟨rfl, rfl⟩⟩
theorem HwB_fr {I I1 : Ic} {hc : Nat} {hi : Nat → CM} (h : HwB I hc hi) (h1 : I1 71 2 = I 71 2) (h3 : I1 73 = I 73) : HwB I1 hc hi := by
  unfold HwB at h ⊢; rw [h1, h3]; exact h
theorem SwB_fr {I I1 : Ic} {sv : Nat → Option CM} (h : SwB I sv) (h4 : I1 74 = I 74) (h5 : I1 75 = I 75) : SwB I1 sv := by
  unfold SwB at h ⊢; rw [h4, h5]; exact h
theorem PdB_fr {I I1 : Ic} {pn : Nat} {ch : Nat → Nat} (h : PdB I pn ch) (h1 : I1 71 6 = I 71 6) (h6 : I1 76 = I 76) : PdB I1 pn ch := by
  unfold PdB at h ⊢; rw [h1, h6]; exact h
/-- only what is laid has changed -/
theorem PB_q {n : Nat} {I I1 : Ic} {L L1 : Lc} {R : Rc} {S : ST} (h : InvB n I R S) (hI : ∀ a, a < 71 ∨ (71 < a ∧ a < 77) ∨ 83 ≤ a → I1 a = I a) (h71 : ∀ j, j = 2 ∨ j = 6 → I1 71 j = I 71 j) (hL : ∀ a, a < 71 ∨ 83 ≤ a → L1 a = L a) : PB n I L R S I1 L1 :=
  ⟨⟨h.1, h.2.1, by rw [hI 72 (by omega)]; exact h.2.2.1, HwB_fr h.2.2.2.1 (h71 2 (Or.inl rfl)) (hI 73 (by omega)), SwB_fr h.2.2.2.2.1 (hI 74 (by omega)) (hI 75 (by omega)), PdB_fr h.2.2.2.2.2 (h71 6 (Or.inr rfl)) (hI 76 (by omega))⟩, fun a ha => ⟨hI a (by omega), hL a ha⟩⟩
/-- after a record: the row now and the pad as they are then -/
theorem PB_rec {n : Nat} {I I1 I2 : Ic} {L L2 : Lc} {R : Rc} {w : Nat → Nat} {K : Nat} {ro : Nat → Nat} {hc : Nat} {hi : Nat → CM} {sv : Nat → Option CM} {pn pn2 : Nat} {ch ch2 : Nat → Nat} {m : CM} (h : InvB n I R ((w, K, ro), hc, hi, sv, pn, ch)) (hH : HwB I1 (hcN hc) (hiN hc hi (w, K, ro))) (hf : ∀ a, a ≠ 71 → a ≠ 73 → I1 a = I a) (h2 : I2 71 2 = I1 71 2) (h3 : I2 73 = I1 73) (h4 : I2 74 = I1 74) (h5 : I2 75 = I1 75) (hm : NwA (I2 72) m) (hP : PdB I2 pn2 ch2) (hI2 : ∀ a, a < 71 ∨ 83 ≤ a → I2 a = I1 a) (hL : ∀ a, a < 71 ∨ 83 ≤ a → L2 a = L a) : PB n I L R (m, hcN hc, hiN hc hi (w, K, ro), sv, pn2, ch2) I2 L2 :=
  ⟨⟨h.1, h.2.1, hm, HwB_fr hH h2 h3, SwB_fr h.2.2.2.2.1 (h4.trans (hf 74 (by decide) (by decide))) (h5.trans (hf 75 (by decide) (by decide))), hP⟩, fun a ha => ⟨(hI2 a ha).trans (hf a (by omega) (by omega)), hL a ha⟩⟩
theorem NwI_w {g : Nat → Int32} {w : Nat → Nat} {K : Nat} {ro : Nat → Nat} {i u : Nat} (h : NwI g w K ro) (hi : i < 58) (hw : Wok (upN w i u)) : NwI (fun k => if k = rj i then nI u else g k) (upN w i u) K ro := by
  have hr := rj_lt hi
  refine ⟨fun k hk => ?_, ?_, fun j hj => ?_, h.2.2.2.1, hw, h.2.2.2.2.2⟩
  · obtain ⟨j, hj, rfl⟩ := rj_ex hk
    show (if rj j = rj i then nI u else g (rj j)) = _
    rw [rwt_rj]
    unfold upN
    by_cases e : j = i
    · rw [if_pos (by rw [e]), if_pos e]
    · rw [if_neg (fun q => e (rj_inj q hj hi)), if_neg e, h.1 _ hk, rwt_rj]
  · show (if 58 = rj i then nI u else g 58) = _
    rw [if_neg (by omega)]; exact h.2.1
  · show (if 60 + j = rj i then nI u else g (60 + j)) = _
    rw [if_neg (by omega)]; exact h.2.2.1 j hj
