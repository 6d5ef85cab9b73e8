theorem wb_tb (n : Nat) : (lN n).toBitVec = BitVec.ofNat 64 n := rfl
theorem wb_inj {a b : Int64} (h : a.toBitVec = b.toBitVec) : a = b := Int64.toBitVec_inj.mp h
theorem wb_tn {n : Nat} (h : n < 2 ^ 64) : (lN n).toBitVec.toNat = n := by rw [wb_tb, BitVec.toNat_ofNat, Nat.mod_eq_of_lt h]
theorem wb_of (x : Int64) : ∃ n, n < 2 ^ 64 ∧ x = lN n := ⟨x.toBitVec.toNat, x.toBitVec.isLt, wb_inj (by rw [wb_tb]; simp)⟩
theorem wb_cu : ∀ k, k < 64 → ((nI k).toInt64.toUInt64 &&& Int64.toUInt64 63) = UInt64.ofNat k := by decide +kernel
theorem wb_shr {n k : Nat} (hn : n < 2 ^ 64) (hk : k < 64) : ((lN n).toUInt64 >>> ((nI k).toInt64.toUInt64 &&& Int64.toUInt64 63)).toInt64 = lN (n / 2 ^ k) := by
  rw [wb_cu k hk]
  apply wb_inj
  apply BitVec.eq_of_toNat_eq
  show ((lN n).toUInt64 >>> UInt64.ofNat k).toNat = (BitVec.ofNat 64 _).toNat
  have h1 : (UInt64.ofNat k).toNat = k := by
    show (BitVec.ofNat 64 k).toNat = k
    rw [BitVec.toNat_ofNat, Nat.mod_eq_of_lt (by omega)]
  have h2 : (lN n).toUInt64.toNat = n := wb_tn hn
  rw [UInt64.toNat_shiftRight, h1, h2, Nat.mod_eq_of_lt hk, Nat.shiftRight_eq_div_pow, BitVec.toNat_ofNat, Nat.mod_eq_of_lt (Nat.lt_of_le_of_lt (Nat.div_le_self _ _) hn)]
theorem wb_and {a b : Nat} (ha : a < 2 ^ 64) (hb : b < 2 ^ 64) : lN a &&& lN b = lN (a &&& b) := by
  apply wb_inj
  rw [Int64.toBitVec_and, wb_tb, wb_tb, wb_tb]
  apply BitVec.eq_of_toNat_eq
  rw [BitVec.toNat_and, BitVec.toNat_ofNat, BitVec.toNat_ofNat, BitVec.toNat_ofNat, Nat.mod_eq_of_lt ha, Nat.mod_eq_of_lt hb, Nat.mod_eq_of_lt (Nat.and_lt_two_pow _ hb)]
theorem lN_m255 {a : Nat} (h : a < 2 ^ 64) : lN a &&& lN 255 = lN (a % 256) := by rw [wb_and h (by decide), show (255 : Nat) = 2 ^ 8 - 1 by decide, Nat.and_two_pow_sub_one_eq_mod]
theorem div64 {a b : Nat} (h : a < 2 ^ 64) : a / b < 2 ^ 64 := Nat.lt_of_le_of_lt (Nat.div_le_self _ _) h
/-- the signs that a number gives -/
def byt (X i : Nat) : Nat := X / 256 ^ i % 256
def CS (X k : Nat) : Prop := 1 ≤ k ∧ k ≤ 8 ∧ (∀ j, j < k → 33 ≤ byt X j ∧ byt X j ≤ 126) ∧ X / 256 ^ k = 0
theorem div_s (X i : Nat) : X / 256 ^ (i + 1) = X / 256 ^ i / 256 := by rw [Nat.pow_succ, Nat.div_div_eq_div_mul]
theorem div_0 {X i j : Nat} (h : X / 256 ^ i = 0) (hij : i ≤ j) : X / 256 ^ j = 0 := by
  induction j with
  | zero => rw [show i = 0 by omega] at h; exact h
  | succ j ih =>
    by_cases e : i = j + 1
    · rw [← e]; exact h
    · rw [div_s, ih (by omega)]
theorem byt_0 {X i j : Nat} (h : X / 256 ^ i = 0) (hij : i ≤ j) : byt X j = 0 := by unfold byt; rw [div_0 h hij]
theorem CS_one {X k k' : Nat} (h : CS X k) (h' : CS X k') : k = k' := by
  have key : ∀ {k k' : Nat}, CS X k → CS X k' → ¬ k < k' := by
    intro k k' h h' hl
    have h1 := byt_0 h.2.2.2 (Nat.le_refl k)
    have h2 := h'.2.2.1 k hl
    omega
  have := key h h'
  have := key h' h
  omega
theorem CS_bad {X i : Nat} (h : ∀ j, j < i → byt X j ≠ 0) (hb : ¬ (33 ≤ byt X i ∧ byt X i ≤ 126)) (hn : X / 256 ^ i ≠ 0 ∨ i = 0) : ∀ k, ¬ CS X k := by
  intro k hk
  by_cases e : i < k
  · exact hb (hk.2.2.1 i e)
  · rcases hn with hn | hn
    · exact hn (div_0 hk.2.2.2 (by omega))
    · have := hk.1; omega
theorem byt_ne {X i : Nat} (h : byt X i ≠ 0) : X / 256 ^ i ≠ 0 := fun e => h (by unfold byt; rw [e])
theorem div8 {X : Nat} (h : X < 2 ^ 64) : X / 256 ^ 8 = 0 := Nat.div_eq_of_lt (by rw [show (256 : Nat) ^ 8 = 2 ^ 64 by decide]; exact h)
def chA (ch : Nat → Nat) (pn X k : Nat) : Nat → Nat := fun j => if pn ≤ j ∧ j < pn + k then byt X (k - 1 - (j - pn)) else ch j
/-- d signs are still to be appended -/
def chP (ch : Nat → Nat) (pn X k d : Nat) : Nat → Nat := fun j => if pn ≤ j ∧ j < pn + (k - d) then byt X (k - 1 - (j - pn)) else ch j
theorem chP_0 (ch : Nat → Nat) (pn X k : Nat) : chP ch pn X k 0 = chA ch pn X k := rfl
theorem chP_k (ch : Nat → Nat) (pn X k : Nat) : chP ch pn X k k = ch := by funext j; unfold chP; rw [if_neg (by omega)]
theorem chP_s {ch : Nat → Nat} {pn X k d : Nat} (hd : d < k) (j : Nat) : chP ch pn X k d j = if j = pn + (k - (d + 1)) then byt X d else chP ch pn X k (d + 1) j := by
  unfold chP
  by_cases e : j = pn + (k - (d + 1))
  · rw [if_pos e, if_pos (by omega), show k - 1 - (j - pn) = d by omega]
  · rw [if_neg e]
    by_cases h : pn ≤ j ∧ j < pn + (k - (d + 1))
    · rw [if_pos h, if_pos (by omega)]
    · rw [if_neg h, if_neg (by omega)]
theorem PadI_s {I : Ic} {ch : Nat → Nat} {pn X k d : Nat} (hk : CS X k) (hd : d < k) (hp : pn + k ≤ 80) (h : PadI I (pn + (k - (d + 1))) (chP ch pn X k (d + 1))) : PadI (up2 (up2 I 7 (pn + (k - (d + 1))) (nI (byt X d))) 6 1 (nI (pn + (k - (d + 1)) + 1))) (pn + (k - d)) (chP ch pn X k d) := by
  refine ⟨by rw [up2_at, if_pos ⟨rfl, rfl⟩, show pn + (k - (d + 1)) + 1 = pn + (k - d) by omega], by omega, fun j hj => ?_, fun j => ?_⟩
  · rw [up2_ne (by decide), up2_at, chP_s hd]
    by_cases e : j = pn + (k - (d + 1))
    · rw [if_pos ⟨rfl, e⟩, if_pos e]
    · rw [if_neg (fun q => e q.2), if_neg e]; exact h.2.2.1 j (by omega)
  · rw [chP_s hd]
    split
    · exact hk.2.2.1 d hd
    · exact h.2.2.2 j
theorem sh8 {X d : Nat} (hX : X < 2 ^ 64) (hd : d < 8) : ((lN X).toUInt64 >>> ((nI (8 * d)).toInt64.toUInt64 &&& Int64.toUInt64 63)).toInt64 = lN (X / 256 ^ d) := by
  rw [wb_shr hX (by omega), Nat.pow_mul, show (2 : Nat) ^ 8 = 256 by decide]
theorem byt_c {q : Nat} (h : q < 256) : ((nI q).toUInt32 % 65536).toInt32 = nI q := by
  have : ∀ q, q < 256 → ((nI q).toUInt32 % 65536).toInt32 = nI q := by decide +kernel
  exact this q h
theorem byt_nar {q : Nat} (h : q < 256) : vp_nar .char (nI q) = nI q := by
  have : ∀ q, q < 256 → vp_nar .char (nI q) = nI q := by decide +kernel
  exact this q h
section
variable {a b m p c : Nat} {w : Nat → Nat} {K : Nat} {ro : Nat → Nat}
theorem s0_1 (h : c = 64) : stp (0, a, b, m, w, K, ro, p) c = some (1, a, b, m, w, K, ro, p) := by
  unfold stp; dsimp only
  rw [if_pos rfl, if_pos h]
theorem s0_3 (h : 48 ≤ c) (h2 : c ≤ 53) : stp (0, a, b, m, w, K, ro, p) c = some (3, c - 48, b, m, w, K, ro, p) := by
  unfold stp; dsimp only
  rw [if_pos rfl, if_neg (by omega), if_pos ⟨h, h2⟩]
theorem s0_8 (h : c = 33) : stp (0, a, b, m, w, K, ro, p) c = some (8, a, b, 0, w, 0, ro, p) := by
  unfold stp; dsimp only
  rw [if_pos rfl, if_neg (by omega), if_neg (by omega), if_pos h]
theorem s0_n (h : c ≠ 64) (h2 : ¬ (48 ≤ c ∧ c ≤ 53)) (h3 : c ≠ 33) : stp (0, a, b, m, w, K, ro, p) c = none := by
  unfold stp; dsimp only
  rw [if_pos rfl, if_neg h, if_neg h2, if_neg h3]
theorem s3_4 (h : c = 62) : stp (3, a, b, m, w, K, ro, p) c = some (4, a, b, m, w, K, ro, p) := by
  unfold stp; dsimp only
  rw [if_neg (by decide), if_neg (by decide), if_neg (by decide), if_pos rfl, if_pos h]
theorem s3_6 (h : c = 61) (h2 : a < 4) : stp (3, a, b, m, w, K, ro, p) c = some (6, a, b, m, w, K, ro, p) := by
  unfold stp; dsimp only
  rw [if_neg (by decide), if_neg (by decide), if_neg (by decide), if_pos rfl, if_neg (by omega), if_pos ⟨h, h2⟩]
theorem s3_n (h : c ≠ 62) (h2 : ¬ (c = 61 ∧ a < 4)) : stp (3, a, b, m, w, K, ro, p) c = none := by
  unfold stp; dsimp only
  rw [if_neg (by decide), if_neg (by decide), if_neg (by decide), if_pos rfl, if_neg h, if_neg h2]
theorem s8_8 (h : 97 ≤ c ∧ c ≤ 100 ∧ m < 6) : stp (8, a, b, m, w, K, ro, p) c = some (8, a, b, m + 1, w, m + 1, upN ro m (c - 97), p) := by
  unfold stp; dsimp only
  rw [if_neg (by decide), if_neg (by decide), if_neg (by decide), if_neg (by decide), if_neg (by decide), if_neg (by decide), if_neg (by decide), if_neg (by decide), if_pos rfl, if_pos h]
theorem s8_0 (h : c = 59) : stp (8, a, b, m, w, K, ro, p) c = some (0, a, b, m, w, K, ro, p + 1) := by
  unfold stp; dsimp only
  rw [if_neg (by decide), if_neg (by decide), if_neg (by decide), if_neg (by decide), if_neg (by decide), if_neg (by decide), if_neg (by decide), if_neg (by decide), if_pos rfl, if_neg (by omega), if_pos h]
theorem s8_n (h : ¬ (97 ≤ c ∧ c ≤ 100 ∧ m < 6)) (h2 : c ≠ 59) : stp (8, a, b, m, w, K, ro, p) c = none := by
  unfold stp; dsimp only
  rw [if_neg (by decide), if_neg (by decide), if_neg (by decide), if_neg (by decide), if_neg (by decide), if_neg (by decide), if_neg (by decide), if_neg (by decide), if_pos rfl, if_neg h, if_neg h2]
theorem s9_0 (h : c = 59) : stp (9, a, b, m, w, K, ro, p) c = some (0, a, b, m, w, K, ro, p + 1) := by
  unfold stp; dsimp only
  rw [if_neg (by decide), if_neg (by decide), if_neg (by decide), if_neg (by decide), if_neg (by decide), if_neg (by decide), if_neg (by decide), if_neg (by decide), if_neg (by decide), if_pos h]
theorem s9_n (h : c ≠ 59) : stp (9, a, b, m, w, K, ro, p) c = none := by
  unfold stp; dsimp only
  rw [if_neg (by decide), if_neg (by decide), if_neg (by decide), if_neg (by decide), if_neg (by decide), if_neg (by decide), if_neg (by decide), if_neg (by decide), if_neg (by decide), if_neg h]
end
theorem sh_8 {X i : Nat} (hX : X < 2 ^ 64) : ((lN (X / 256 ^ i)).toUInt64 >>> ((nI 8).toInt64.toUInt64 &&& Int64.toUInt64 63)).toInt64 = lN (X / 256 ^ (i + 1)) := by
  rw [wb_shr (div64 hX) (by decide), div_s, show (2 : Nat) ^ 8 = 256 by decide]
theorem byt_256 (X v : Nat) : byt X v < 256 := Nat.mod_lt _ (by decide)
theorem PE_r {pn : Nat} {ch : Nat → Nat} {s0 : Sg} {I0 I : Ic} {i a b t p : Nat} {w : Nat → Nat} {ro : Nat → Nat} (h : PE true pn ch s0 I0 i (8, a, b, t, w, t, ro, p) I) (hi : i < pn) (h1 : 97 ≤ ch i) (h2 : ch i ≤ 100) (ht : t < 6) : PE true pn ch s0 I0 (i + 1) (8, a, b, t + 1, w, t + 1, upN ro t (ch i - 97), p) (up2 (up2 (up2 I 6 2 (nI (i + 1))) 3 t (nI (ch i - 97))) 1 2 (nI (t + 1))) := by
  refine ⟨by rw [stT_s h.1]; exact s8_8 ⟨h1, h2, ht⟩, hi, PadI_lo (PadI_at h.2.2.1 2 (Or.inl rfl) (nI (i + 1))) (by rw [up2_ne (by decide), up2_ne (by decide)]) (by rw [up2_ne (by decide), up2_ne (by decide)]), by rw [up2_ne (by decide), up2_ne (by decide), up2_at, if_pos ⟨rfl, rfl⟩], ?_, fun a h1 h2 h3 h6 => by rw [up2_ne h1, up2_ne h3, up2_ne h6]; exact h.2.2.2.2.2 a h1 h2 h3 h6⟩
  have h5 : MdI I w t ro := h.2.2.2.2.1
  show MdI _ w (t + 1) (upN ro t (ch i - 97))
  refine ⟨fun j hj => ?_, ?_, fun j hj => ?_, by omega, h5.2.2.2.2.1, fun j => ?_⟩
  · rw [up2_ne (by decide), up2_ne (by decide), up2_ne (by decide)]; exact h5.1 j hj
  · rw [up2_at, if_pos ⟨rfl, rfl⟩]
  · rw [up2_ne (by decide), up2_at]
    show _ = nI (if j = t then _ else _)
    by_cases e : j = t
    · rw [if_pos ⟨rfl, e⟩, if_pos e]
    · rw [if_neg (fun q => e q.2), if_neg e, up2_ne (by decide)]; exact h5.2.2.1 j (by omega)
  · show (if j = t then _ else _) < 4
    split
    · omega
    · exact h5.2.2.2.2.2 j
theorem PE_rN {pn : Nat} {ch : Nat → Nat} {s0 : Sg} {I0 I : Ic} {i a b t p : Nat} {w : Nat → Nat} {ro : Nat → Nat} (h : PE false pn ch s0 I0 i (8, a, b, t, w, t, ro, p) I) (hi : i < pn) (h1 : 97 ≤ ch i) (h2 : ch i ≤ 100) (ht : t < 6) : PE false pn ch s0 I0 (i + 1) (8, a, b, t + 1, w, t + 1, upN ro t (ch i - 97), p) (up2 I 6 2 (nI (i + 1))) :=
  PE_v h hi (s8_8 ⟨h1, h2, ht⟩)
/-- the row is emptied at its sign -/
theorem PE_0 {pn : Nat} {ch : Nat → Nat} {s0 : Sg} {I0 I : Ic} {i a b p K0 : Nat} {w : Nat → Nat} {ro : Nat → Nat} (hs : stT ch s0 i = some (8, a, b, 0, w, 0, ro, p)) (hi : i ≤ pn) (hP : PadI I pn ch) (ha : I 6 2 = nI i) (hM : MdI I w K0 ro) (hf : ∀ a, a ≠ 1 → a ≠ 2 → a ≠ 3 → a ≠ 6 → I a = I0 a) : PE true pn ch s0 I0 i (8, a, b, 0, w, 0, ro, p) (up2 I 1 2 (nI 0)) :=
  ⟨hs, hi, PadI_lo hP (up2_ne (by decide)) (up2_ne (by decide)), by rw [up2_ne (by decide)]; exact ha, (show MdI _ w 0 ro from ⟨fun j hj => by rw [up2_ne (by decide)]; exact hM.1 j hj, by rw [up2_at, if_pos ⟨rfl, rfl⟩], fun j hj => absurd hj (by omega), by omega, hM.2.2.2.2.1, hM.2.2.2.2.2⟩), fun a h1 h2 h3 h6 => by rw [up2_ne h1]; exact hf a h1 h2 h3 h6⟩
theorem PE_p {b : Bool} {pn : Nat} {ch : Nat → Nat} {s0 σ : Sg} {I0 I : Ic} {i : Nat} (h : PE b pn ch s0 I0 i σ I) (x : Int32) : PE b pn ch s0 I0 i σ (up2 I 6 3 x) := by
  refine ⟨h.1, h.2.1, PadI_at h.2.2.1 3 (Or.inr rfl) x, by rw [up2_at, if_neg (by decide)]; exact h.2.2.2.1, ?_, fun a h1 h2 h3 h6 => by rw [up2_ne h6]; exact h.2.2.2.2.2 a h1 h2 h3 h6⟩
  have h5 := h.2.2.2.2.1
  cases b with
  | true => exact MdI_lo h5 (fun a ha => up2_ne (by omega))
  | false => exact ⟨by rw [up2_ne (by decide)]; exact h5.1, by rw [up2_ne (by decide)]; exact h5.2.1, by rw [up2_ne (by decide)]; exact h5.2.2⟩
