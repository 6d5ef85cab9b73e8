theorem rng_nI2 {k N : Nat} (h : k < N) (hN : N < 2 ^ 31) : rng (nI k) N = some k := by
  unfold rng
  rw [nI_toInt (show k < 2 ^ 31 by omega), if_pos (by omega)]
  simp
theorem rng_ex2 {x : Int32} {N : Nat} (hN : N < 2 ^ 31) (h0 : 0 ≤ x.toInt) (h1 : x.toInt < (N : Int)) : ∃ k, k < N ∧ x = nI k := by
  refine ⟨x.toInt.toNat, by omega, ?_⟩
  apply Int32.toInt_inj.mp
  rw [nI_toInt (by omega)]
  omega
theorem foldC_pos {m v1 v2 : Nat → Nat} : ∀ {N : Nat}, (∀ i, i < N → (0 < v1 i ↔ 0 < v2 i)) → (0 < foldT opS 0 m v1 N ↔ 0 < foldT opC 0 m v2 N)
  | 0, _ => Iff.rfl
  | N + 1, h => by
    have ih := foldC_pos (m := m) (N := N) (fun i hi => h i (by omega))
    have hN := h N (by omega)
    unfold foldT
    by_cases hm : 0 < m N
    · rw [if_pos hm, if_pos hm]
      show 0 < foldT opS 0 m v1 N + m N * v1 N ↔ 0 < foldT opC 0 m v2 N + v2 N
      have : 0 < m N * v1 N ↔ 0 < v1 N := ⟨fun q => Nat.pos_of_ne_zero (fun e => by rw [e] at q; omega), fun q => Nat.mul_pos hm q⟩
      omega
    · rw [if_neg hm, if_neg hm]; exact ih
theorem foldM_pos {m v1 v2 : Nat → Nat} : ∀ {N : Nat}, (∀ i, i < N → (0 < v1 i ↔ 0 < v2 i)) → (0 < foldT opM 0 m v1 N ↔ 0 < foldT opC 0 m v2 N)
  | 0, _ => Iff.rfl
  | N + 1, h => by
    have ih := foldM_pos (m := m) (N := N) (fun i hi => h i (by omega))
    have hN := h N (by omega)
    unfold foldT
    by_cases hm : 0 < m N
    · rw [if_pos hm, if_pos hm]
      show 0 < max (foldT opM 0 m v1 N) (m N * v1 N) ↔ 0 < foldT opC 0 m v2 N + v2 N
      have : 0 < m N * v1 N ↔ 0 < v1 N := ⟨fun q => Nat.pos_of_ne_zero (fun e => by rw [e] at q; omega), fun q => Nat.mul_pos hm q⟩
      omega
    · rw [if_neg hm, if_neg hm]; exact ih
theorem row_pos {op : Nat → Nat → Nat → Nat} (hop : ∀ {m v1 v2 : Nat → Nat} {N : Nat}, (∀ i, i < N → (0 < v1 i ↔ 0 < v2 i)) → (0 < foldT op 0 m v1 N ↔ 0 < foldT opC 0 m v2 N)) {g : Nat → Nat → Nat} {n1 n2 : Nat → Nat} (h : ∀ t, (0 < n1 t ↔ 0 < n2 t)) (f : Nat) : 0 < rowA op 0 g n1 f ↔ 0 < rowA opC 0 g n2 f := by
  have h5 : 0 < r5 op 0 g n1 ↔ 0 < r5 opC 0 g n2 := hop (fun i _ => h i)
  have h4 : 0 < r4 op 0 g n1 ↔ 0 < r4 opC 0 g n2 := hop (fun i _ => by
    by_cases e : i < 4
    · simp only [if_pos e]; exact h i
    · simp only [if_neg e]; exact h5)
  unfold rowA
  by_cases e5 : f = 5
  · rw [if_pos e5, if_pos e5]; exact h5
  · rw [if_neg e5, if_neg e5]
    by_cases e4 : f = 4
    · rw [if_pos e4, if_pos e4]; exact h4
    · rw [if_neg e4, if_neg e4]
      refine hop (fun i _ => ?_)
      by_cases e : i < 4
      · simp only [if_pos e]; exact h i
      · simp only [if_neg e]
        by_cases e' : i = 4
        · simp only [if_pos e']; exact h4
        · simp only [if_neg e']; exact h5
theorem SC_pos (w : Nat → Nat) (K : Nat) (r : Nat → Nat) : ∀ j f, 0 < Sx' w K r j f ↔ 0 < Cx' w K r j f
  | 0, _ => Iff.rfl
  | j + 1, f => row_pos (fun h => foldC_pos h) (fun t => SC_pos w K r j t) f
theorem MC_pos (w : Nat → Nat) (K : Nat) (r : Nat → Nat) : ∀ j f, 0 < Mx' w K r j f ↔ 0 < Cx' w K r j f
  | 0, _ => Iff.rfl
  | j + 1, f => row_pos (fun h => foldM_pos h) (fun t => MC_pos w K r j t) f
-- Euclid's steps
def eu : Nat → Nat → Nat → Nat × Nat
  | 0, a, b => (a, b)
  | i + 1, a, b => if b = 0 then (a, b) else eu i b (a % b)
def fbt : Nat → Nat → Nat → Nat
  | 0, a, _ => a
  | i + 1, a, b => fbt i b (a + b)
theorem fbt_s : ∀ i a b, fbt (i + 2) a b = fbt i a b + fbt (i + 1) a b
  | 0, _, _ => rfl
  | i + 1, a, b => fbt_s i b (a + b)
theorem eu_fib : ∀ i a b, b < a → (eu i a b).2 ≠ 0 → fbt (i + 2) 0 1 ≤ a ∧ fbt (i + 1) 0 1 ≤ b
  | 0, a, b, h, h2 => by
    have hb : b ≠ 0 := h2
    have e1 : fbt (0 + 2) 0 1 = 1 := rfl
    have e2 : fbt (0 + 1) 0 1 = 1 := rfl
    omega
  | i + 1, a, b, h, h2 => by
    unfold eu at h2
    by_cases hb : b = 0
    · rw [if_pos hb] at h2; exact absurd hb h2
    · rw [if_neg hb] at h2
      have ih := eu_fib i b (a % b) (Nat.mod_lt _ (by omega)) h2
      have e := fbt_s (i + 1) 0 1
      have hd := Nat.div_add_mod a b
      have hq : 0 < a / b := Nat.div_pos (by omega) (by omega)
      have hm : b * 1 ≤ b * (a / b) := Nat.mul_le_mul_left b hq
      rw [show i + 1 + 2 = i + 3 by omega] at *
      refine ⟨?_, ih.1⟩
      have e' : fbt (i + 3) 0 1 = fbt (i + 1) 0 1 + fbt (i + 2) 0 1 := e
      omega
theorem eu_100 {a b : Nat} (hb : b < 2 ^ 63) : (eu 100 a b).2 = 0 := by
  refine Classical.byContradiction fun h => ?_
  have h1 : (eu (99 + 1) a b).2 ≠ 0 := h
  unfold eu at h1
  by_cases e : b = 0
  · rw [if_pos e] at h1; exact h1 e
  · rw [if_neg e] at h1
    have h2 := (eu_fib 99 b (a % b) (Nat.mod_lt _ (by omega)) h1).1
    have h3 : 2 ^ 63 < fbt (99 + 2) 0 1 := by decide +kernel
    omega
theorem eu_s {i a b : Nat} (hb : b ≠ 0) : eu (i + 1) a b = eu i b (a % b) := if_neg hb
theorem gcd_s (a b : Nat) : Nat.gcd b (a % b) = Nat.gcd a b := by rw [Nat.gcd_comm a b, Nat.gcd_rec b a, Nat.gcd_comm]
def lowT (u l b : Nat) : Int64 := lN ((if b = 0 then u else l) / Nat.gcd u l)
-- the answers
def aFwd (m : CM) (p c : Int32) : Int64 := match rng p m.2.1, rng c 4 with
  | some i, some f => lN (uB m.1 m.2.2 (i + 1) f)
  | _, _ => -1
def aBwd (m : CM) (p c : Int32) : Int64 := match rng p m.2.1, rng c 4 with
  | some i, some f => lN (Sx' m.1 m.2.1 m.2.2 (m.2.1 - (i + 1)) f)
  | _, _ => -1
def aWay (m : CM) (q x : Int32) : Int32 := match rng q (aCnt m) with
  | some i => if x.toInt < -1 then -2 else tellS (wayN m.1 m.2.2 m.2.1 i) x
  | none => -1
def aWei (m : CM) (q : Int32) : Int64 := match rng q (aCnt m) with
  | some i => lN (prN m.1 m.2.2 m.2.1 0 6 (wayN m.1 m.2.2 m.2.1 i))
  | none => -1
def bstN (m : CM) : Nat := rkN m.1 m.2.2 m.2.1 0 6 (wayM m.1 m.2.2 m.2.1)
def aLik (m : CM) (x : Int32) : Int32 := if x.toInt < -2 then -2 else if aTot m = 0 then -5 else if x = -2 then nI (bstN m) else tellS (wayN m.1 m.2.2 m.2.1 (bstN m)) x
def aOdds (m : CM) (p c b : Int32) : Int64 := match rng p m.2.1, rng c 4 with
  | some i, some f => (match rng b 2 with
    | some y => if aTot m = 0 then -5 else lowT (thr m.1 m.2.2 m.2.1 i f) (aTot m) y
    | none => -2)
  | _, _ => -1
def bestT (g : Nat → Nat) : Nat → Nat
  | 0 => 0
  | c + 1 => if g (bestT g c) < g c then c else bestT g c
theorem bestT_le (g : Nat → Nat) : ∀ c, bestT g (c + 1) ≤ c
  | 0 => by show (if g (bestT g 0) < g 0 then 0 else bestT g 0) ≤ 0; split <;> exact Nat.le_refl 0
  | c + 1 => by
    have := bestT_le g c
    show (if g (bestT g (c + 1)) < g (c + 1) then c + 1 else bestT g (c + 1)) ≤ c + 1
    split <;> omega
theorem bestT_y {g : Nat → Nat} {c : Nat} (h : g (bestT g c) < g c) : bestT g (c + 1) = c := if_pos h
theorem bestT_n {g : Nat → Nat} {c : Nat} (h : ¬ g (bestT g c) < g c) : bestT g (c + 1) = bestT g c := if_neg h
def aLikely (m : CM) (p : Int32) : Int32 := match rng p m.2.1 with
  | some i => if aTot m = 0 then -5 else nI (bestT (fun f => thr m.1 m.2.2 m.2.1 i f) 4)
  | none => -1
def aExp (m : CM) (k c t b : Int32) : Int64 := match rng k 3, rng b 2 with
  | some q, some y => (match idx q c t with
    | some i => if aTot m = 0 then -5 else lowT (exN m.1 m.2.2 m.2.1 i) (aTot m) y
    | none => -1)
  | _, _ => -2
def mostN (g : Nat → Nat) : Nat → Nat × Nat
  | 0 => (0, 0)
  | t + 1 => if (mostN g t).2 < g t then (t, g t) else mostN g t
theorem mostN_y {g : Nat → Nat} {t : Nat} (h : (mostN g t).2 < g t) : mostN g (t + 1) = (t, g t) := if_pos h
theorem mostN_n {g : Nat → Nat} {t : Nat} (h : ¬ (mostN g t).2 < g t) : mostN g (t + 1) = mostN g t := if_neg h
theorem mostN_le {g : Nat → Nat} {B : Nat} (hg : ∀ t, g t ≤ B) : ∀ t, (mostN g t).2 ≤ B ∧ (mostN g t).1 ≤ t
  | 0 => ⟨Nat.zero_le _, Nat.le_refl _⟩
  | t + 1 => by
    have ih := mostN_le hg t
    have := hg t
    by_cases h : (mostN g t).2 < g t
    · rw [mostN_y h]; exact ⟨this, Nat.le_succ t⟩
    · rw [mostN_n h]; exact ⟨ih.1, by omega⟩
def aNext (m : CM) (x : Int32) : Int64 := match rng x 2 with
  | some b => if m.2.1 = 6 then -5 else if (mostN (fun t => neN m.1 m.2.2 m.2.1 t 4) 4).2 = 0 then -6 else if b = 0 then lN (mostN (fun t => neN m.1 m.2.2 m.2.1 t 4) 4).1 else lN (mostN (fun t => neN m.1 m.2.2 m.2.1 t 4) 4).2
  | none => -2
def slN (g : Nat → Nat → Nat) (z : Nat) : Nat → Option (Nat × Nat) × Nat
  | 0 => (none, z)
  | i + 1 => if (slN g z i).2 < g (i / 4) (i % 4) then (some (i / 4, i % 4), g (i / 4) (i % 4)) else slN g z i
theorem slN_y {g : Nat → Nat → Nat} {z p t : Nat} (ht : t < 4) (h : (slN g z (4 * p + t)).2 < g p t) : slN g z (4 * p + t + 1) = (some (p, t), g p t) := by
  show (if (slN g z (4 * p + t)).2 < g ((4 * p + t) / 4) ((4 * p + t) % 4) then _ else _) = _
  rw [show (4 * p + t) / 4 = p by omega, show (4 * p + t) % 4 = t by omega, if_pos h]
theorem slN_n {g : Nat → Nat → Nat} {z p t : Nat} (ht : t < 4) (h : ¬ (slN g z (4 * p + t)).2 < g p t) : slN g z (4 * p + t + 1) = slN g z (4 * p + t) := by
  show (if (slN g z (4 * p + t)).2 < g ((4 * p + t) / 4) ((4 * p + t) % 4) then _ else _) = _
  rw [show (4 * p + t) / 4 = p by omega, show (4 * p + t) % 4 = t by omega, if_neg h]
theorem slN_le {g : Nat → Nat → Nat} {z B K : Nat} (hz : z ≤ B) (hg : ∀ p t, p < K → t < 4 → g p t ≤ B) : ∀ i, i ≤ 4 * K → (slN g z i).2 ≤ B ∧ ∀ q, (slN g z i).1 = some q → q.1 < K ∧ q.2 < 4
  | 0, _ => ⟨hz, fun q h => by cases h⟩
  | i + 1, hi => by
    have ih := slN_le hz hg i (by omega)
    show (if (slN g z i).2 < g (i / 4) (i % 4) then (some (i / 4, i % 4), g (i / 4) (i % 4)) else slN g z i).2 ≤ B ∧ ∀ q, (if (slN g z i).2 < g (i / 4) (i % 4) then (some (i / 4, i % 4), g (i / 4) (i % 4)) else slN g z i).1 = some q → _
    by_cases h : (slN g z i).2 < g (i / 4) (i % 4)
    · rw [if_pos h]
      refine ⟨hg _ _ (by omega) (by omega), fun q hq => ?_⟩
      have : q = (i / 4, i % 4) := (Option.some.inj hq).symm
      rw [this]
      exact ⟨by show i / 4 < K; omega, by show i % 4 < 4; omega⟩
    · rw [if_neg h]; exact ih
def plI (o : Option (Nat × Nat)) : Int32 := match o with
  | some q => nI q.1
  | none => -1
def pl2 (o : Option (Nat × Nat)) : Int32 := match o with
  | some q => nI q.2
  | none => -1
def slM (m : CM) : Option (Nat × Nat) × Nat := slN (fun p t => chN m.1 m.2.2 m.2.1 p t 4) (aTot m) (4 * m.2.1)
def aSlip (m : CM) (x : Int32) : Int64 := match rng x 3 with
  | some b => (match (slM m).1 with
    | some q => if b = 0 then lN q.1 else if b = 1 then lN q.2 else lN (slM m).2
    | none => -6)
  | none => -2
def aTrain (S : ST) : Int32 × ST := if S.1.2.1 = 0 ∨ aTot S.1 = 0 then (-5, S) else (nI (cntF S.1.1 (tnew (exN S.1.1 S.1.2.2 S.1.2.1) S.1.1) 0 58), remS S (mixA S.1.1 (tnew (exN S.1.1 S.1.2.2 S.1.2.1) S.1.1) 0 58, S.1.2))
-- a row that is changed
theorem uB_cong {w r r' : Nat → Nat} : ∀ {d : Nat}, (∀ j, j < d → r j = r' j) → uB w r d = uB w r' d
  | 0, _ => rfl
  | d + 1, h => by
    funext f
    show (if f < 4 then rchu w (uB w r d) f * w (42 + f * 4 + r d) else 0) = (if f < 4 then rchu w (uB w r' d) f * w (42 + f * 4 + r' d) else 0)
    rw [uB_cong (fun j hj => h j (by omega)), h d (by omega)]
theorem Ax_cong {op : Nat → Nat → Nat → Nat} {z e : Nat} {w r r' : Nat → Nat} {K : Nat} : ∀ {j : Nat}, j ≤ K → (∀ i, K - j ≤ i → i < K → r i = r' i) → Ax op z e w K r j = Ax op z e w K r' j
  | 0, _, _ => rfl
  | j + 1, hj, h => by
    have ih := Ax_cong (op := op) (z := z) (e := e) (w := w) (j := j) (by omega) (fun i h1 h2 => h i (by omega) h2)
    show rowA op z (fun f t => mv w K r f t (K - (j + 1))) (Ax op z e w K r j) = rowA op z (fun f t => mv w K r' f t (K - (j + 1))) (Ax op z e w K r' j)
    rw [ih]
    have : (fun f t => mv w K r f t (K - (j + 1))) = (fun f t => mv w K r' f t (K - (j + 1))) := by
      funext f t
      unfold mv
      rw [h (K - (j + 1)) (Nat.le_refl _) (by omega)]
    rw [this]
theorem chN_eq {w ro : Nat → Nat} (hw : Wok w) {K p t : Nat} (hp : p < K) : chN w ro K p t 4 = Sx' w K (upN ro p t) K 6 := by
  rw [← cut_all hw (p + 1) (by omega)]
  unfold cutN
  rw [uB_s w _ p 0 (by decide), uB_s w _ p 1 (by decide), uB_s w _ p 2 (by decide), uB_s w _ p 3 (by decide), uB_s6]
  have e : upN ro p t p = t := if_pos rfl
  have e1 : uB w (upN ro p t) p = uB w ro p := uB_cong (fun j hj => if_neg (by omega))
  have e2 : Sx' w K (upN ro p t) (K - (p + 1)) = Sx' w K ro (K - (p + 1)) := Ax_cong (by omega) (fun i h1 h2 => if_neg (by omega))
  rw [e, e1, e2]
  simp only [chN]
  omega
theorem neN_eq {w ro : Nat → Nat} (hw : Wok w) {K t : Nat} : neN w ro K t 4 = Sx' w (K + 1) (upN ro K t) (K + 1) 6 := by
  rw [← cut_all hw (K + 1) (Nat.le_refl _)]
  unfold cutN
  rw [uB_s w _ K 0 (by decide), uB_s w _ K 1 (by decide), uB_s w _ K 2 (by decide), uB_s w _ K 3 (by decide), uB_s6]
  have e : upN ro K t K = t := if_pos rfl
  have e1 : uB w (upN ro K t) K = uB w ro K := uB_cong (fun j hj => if_neg (by omega))
  have e2 : ∀ f, f < 4 → Sx' w (K + 1) (upN ro K t) (K + 1 - (K + 1)) f = 1 := fun f hf => by
    rw [Nat.sub_self]
    show (if f < 4 ∨ (f = 6 ∧ K + 1 = 0) then 1 else 0) = 1
    rw [if_pos (Or.inl hf)]
  rw [e, e1, e2 0 (by decide), e2 1 (by decide), e2 2 (by decide), e2 3 (by decide)]
  simp only [neN]
  omega
theorem SI_lo {L L1 : Lc} (h : SI L) (hL : ∀ a, a < 49 → L1 a = L a) : SI L1 :=
  ⟨fun f hf => by rw [hL 10 (by decide)]; exact h.1 f hf, by rw [hL 10 (by decide)]; exact h.2.1, fun d h1 h6 => by rw [hL _ (by omega)]; exact h.2.2 d h1 h6⟩
theorem Meas_f2 {w r : Nat → Nat} {K : Nat} {I I1 : Ic} {L : Lc} (h : Meas w r K I L) (hK : K ≤ 6) (hI : ∀ a, 42 ≤ a → a < 49 → I1 a = I a) : Meas w r K I1 L :=
  ⟨h.1, h.2.1, fun d f hd hf => ⟨(h.2.2.1 d f hd hf).1, (h.2.2.1 d f hd hf).2.1, by rw [hI _ (by omega) (by omega)]; exact (h.2.2.1 d f hd hf).2.2⟩, h.2.2.2⟩
theorem idx_l {q : Nat} {c t : Int32} {i : Nat} (h : idx q c t = some i) (hq : q = 2) : ∃ a b, a < 4 ∧ b < 4 ∧ c = nI a ∧ t = nI b ∧ i = 42 + a * 4 + b := by
  subst hq
  unfold idx at h
  rw [if_neg (by decide), if_neg (by decide)] at h
  split at h
  · rename_i a b ha hb
    cases h
    have h1 := rng_some ha (by decide)
    have h2 := rng_some hb (by decide)
    exact ⟨a, b, h1.1, h2.1, h1.2, h2.2, rfl⟩
  · cases h
theorem idx_s {q : Nat} {c t : Int32} {i : Nat} (h : idx q c t = some i) (hq : q = 0) : ∃ a, a < 6 ∧ c = nI a ∧ i = 6 * 6 + a := by
  subst hq
  unfold idx at h
  rw [if_pos rfl] at h
  split at h
  · rename_i a b ha hb
    cases h
    have h1 := rng_some ha (by decide)
    exact ⟨a, h1.1, h1.2, rfl⟩
  · cases h
theorem stN_0 {w r : Nat → Nat} {K f t : Nat} (h : ∀ d, mv w K r f t d = 0) : ∀ d, stN w r K f t d = 0
  | 0 => rfl
  | d + 1 => by rw [stN_s, stN_0 h d, h d]; simp
theorem train_ok {w r : Nat → Nat} (hw : Wok w) (K : Nat) : Wok (mixA w (tnew (exN w r K) w) 0 58) := by
  refine ⟨fun j => mix_le hw.1 58 j, ?_, ?_, ?_⟩
  · show (if 0 ≤ 28 ∧ 28 < 58 then _ else _) = 0
    rw [if_pos (by decide)]
    exact tnew_0 ((exN_st (f := 4) (t := 4) (by decide) (by decide)).trans (stN_0 (fun d => mv_44 hw K r d) K)) hw.2.1
  · show (if 0 ≤ 34 ∧ 34 < 58 then _ else _) = 0
    rw [if_pos (by decide)]
    exact tnew_0 ((exN_st (f := 5) (t := 4) (by decide) (by decide)).trans (stN_0 (fun d => mv_54 hw K r d) K)) hw.2.2.1
  · show (if 0 ≤ 35 ∧ 35 < 58 then _ else _) = 0
    rw [if_pos (by decide)]
    exact tnew_0 ((exN_st (f := 5) (t := 5) (by decide) (by decide)).trans (stN_0 (fun d => mv_55 hw K r d) K)) hw.2.2.2
theorem MdI_wI {I : Ic} {w v : Nat → Nat} {K : Nat} {ro : Nat → Nat} (h : MdI I w K ro) (hv : Wok v) : MdI (wI I v) v K ro :=
  ⟨fun j hj => wI_at hj, by rw [wI_ne (by decide)]; exact h.2.1, fun j hj => by rw [wI_ne (by decide)]; exact h.2.2.1 j hj, h.2.2.2.1, hv, h.2.2.2.2.2⟩
