-- positive numbers as ones; the steps between loud places
def bp (x : Nat) : Nat := if 0 < x then 1 else 0
theorem bp_p {x : Nat} (h : 0 < x) : bp x = 1 := if_pos h
theorem bp_n {x : Nat} (h : x = 0) : bp x = 0 := if_neg (by omega)
theorem bp_le (x : Nat) : bp x ≤ 1 := by unfold bp; split <;> omega
theorem bp_mul (x y : Nat) : bp (x * y) = bp x * bp y := by
  unfold bp
  by_cases hx : 0 < x
  · by_cases hy : 0 < y
    · rw [if_pos hx, if_pos hy, if_pos (Nat.mul_pos hx hy)]
    · have : y = 0 := by omega
      subst this
      simp
  · have : x = 0 := by omega
    subst this
    simp
def wb (w : Nat → Nat) : Nat → Nat := fun i => bp (w i)
theorem wb_ok {w : Nat → Nat} (hw : Wok w) : Wok (wb w) := ⟨fun i => Nat.le_trans (bp_le _) (by decide), bp_n hw.2.1, bp_n hw.2.2.1, bp_n hw.2.2.2⟩
theorem mv_wb (w : Nat → Nat) (k : Nat) (r : Nat → Nat) (f t d : Nat) : mv (wb w) k r f t d = bp (mv w k r f t d) := by
  unfold mv
  split
  · rfl
  · split
    · rw [bp_mul]; rfl
    · rfl
theorem foldCS {m m' v : Nat → Nat} (h : ∀ i, m' i = bp (m i)) : ∀ N, foldT opC 0 m v N = foldT opS 0 m' v N
  | 0 => rfl
  | N + 1 => by
    have ih := foldCS (v := v) h N
    unfold foldT
    by_cases hm : 0 < m N
    · rw [if_pos hm, h N, bp_p hm, if_pos (by decide), ih]
      show _ + _ = _ + 1 * _
      rw [Nat.one_mul]
    · rw [if_neg hm, h N, bp_n (by omega), if_neg (by decide), ih]
theorem rowCS {g g' : Nat → Nat → Nat} {nxt : Nat → Nat} (h : ∀ f t, g' f t = bp (g f t)) (f : Nat) : rowA opC 0 g nxt f = rowA opS 0 g' nxt f := by
  have e5 : r5 opC 0 g nxt = r5 opS 0 g' nxt := foldCS (fun i => h 5 i) 4
  have e4 : r4 opC 0 g nxt = r4 opS 0 g' nxt := by unfold r4; rw [e5]; exact foldCS (fun i => h 4 i) 6
  unfold rowA
  rw [e5, e4]
  split
  · rfl
  · split
    · rfl
    · exact foldCS (fun i => h f i) 6
theorem CxSx (w : Nat → Nat) (K : Nat) (r : Nat → Nat) : ∀ j, Cx' w K r j = Sx' (wb w) K r j
  | 0 => rfl
  | j + 1 => by
    funext f
    have ih := CxSx w K r j
    show rowA opC 0 (fun f t => mv w K r f t (K - (j + 1))) (Cx' w K r j) f = rowA opS 0 (fun f t => mv (wb w) K r f t (K - (j + 1))) (Sx' (wb w) K r j) f
    rw [ih]
    exact rowCS (fun f t => mv_wb w K r f t _) f
/-- from a place to a loud one, over silent ones too -/
def ov (w : Nat → Nat) (f t : Nat) : Nat := w (f * 6 + t) + w (f * 6 + 4) * w (4 * 6 + t) + w (f * 6 + 5) * w (5 * 6 + t) + w (f * 6 + 4) * w (4 * 6 + 5) * w (5 * 6 + t)
theorem fb4 (g : Nat → Nat) : fb_sm g 4 = g 0 + g 1 + g 2 + g 3 := by simp only [fb_sm, Nat.zero_add]
theorem rc_alg (u0 u1 u2 u3 u6 a0 a1 a2 a3 a6 b0 b1 b2 b3 b6 c0 c1 c2 c3 c6 p q s B4 B5 : Nat) (h4 : B4 = u0 * b0 + u1 * b1 + u2 * b2 + u3 * b3 + u6 * b6) (h5 : B5 = u0 * c0 + u1 * c1 + u2 * c2 + u3 * c3 + B4 * q + u6 * c6) :
    u0 * a0 + u1 * a1 + u2 * a2 + u3 * a3 + B4 * p + B5 * s + u6 * a6 = u0 * (a0 + b0 * p + c0 * s + b0 * q * s) + u1 * (a1 + b1 * p + c1 * s + b1 * q * s) + u2 * (a2 + b2 * p + c2 * s + b2 * q * s) + u3 * (a3 + b3 * p + c3 * s + b3 * q * s) + u6 * (a6 + b6 * p + c6 * s + b6 * q * s) := by
  subst h4; subst h5; grind
theorem rc_ov (w r : Nat → Nat) (d t : Nat) : rchu w (uB w r d) t = fb_sm (fun b => uB w r d b * ov w b t) 4 + uB w r d 6 * ov w 6 t := by
  rw [rchu_ex, fb4]
  exact rc_alg _ _ _ _ _ _ _ _ _ _ _ _ _ _ _ _ _ _ _ _ _ _ _ _ _ (b4_ex w r d) (b5_ex w r d)
theorem rc_0 (w r : Nat → Nat) (t : Nat) : rchu w (uB w r 0) t = ov w 6 t := by
  rw [rc_ov, fb4]
  have : ∀ f, uB w r 0 f = if f = 6 then 1 else 0 := fun _ => rfl
  simp [this]
theorem rc_s (w r : Nat → Nat) (d t : Nat) (hd : 0 < d) : rchu w (uB w r d) t = fb_sm (fun b => uB w r d b * ov w b t) 4 := by
  obtain ⟨e, rfl⟩ : ∃ e, d = e + 1 := ⟨d - 1, by omega⟩
  rw [rc_ov, uB_s6, Nat.zero_mul, Nat.add_zero]
theorem so_alg (x0 x1 x2 x3 x4 x5 a0 a1 a2 a3 p0 p1 p2 p3 q s0 s1 s2 s3 S4 S5 : Nat) (h5 : S5 = s0 * a0 + s1 * a1 + s2 * a2 + s3 * a3 + 0 * S4 + 0 * S5) (h4 : S4 = p0 * a0 + p1 * a1 + p2 * a2 + p3 * a3 + 0 * S4 + q * S5) :
    x0 * a0 + x1 * a1 + x2 * a2 + x3 * a3 + x4 * S4 + x5 * S5 = (x0 + x4 * p0 + x5 * s0 + x4 * q * s0) * a0 + (x1 + x4 * p1 + x5 * s1 + x4 * q * s1) * a1 + (x2 + x4 * p2 + x5 * s2 + x4 * q * s2) * a2 + (x3 + x4 * p3 + x5 * s3 + x4 * q * s3) * a3 := by
  simp only [Nat.zero_mul, Nat.add_zero] at h5 h4
  subst h5; subst h4; grind
theorem Sx_ov {w r : Nat → Nat} (hw : Wok w) {K d : Nat} (hd : d < K) (f : Nat) : Sx' w K r (K - d) f = fb_sm (fun b => ov w f b * w (42 + b * 4 + r d) * Sx' w K r (K - (d + 1)) b) 4 := by
  have xf := Sx_ex (r := r) hw hd f
  have x4 := Sx_ex (r := r) hw hd 4
  have x5 := Sx_ex (r := r) hw hd 5
  have z44 : w (4 * 6 + 4) = 0 := hw.2.1
  have z54 : w (5 * 6 + 4) = 0 := hw.2.2.1
  have z55 : w (5 * 6 + 5) = 0 := hw.2.2.2
  rw [z44] at x4
  rw [z54, z55] at x5
  rw [fb4, xf]
  simp only [Nat.mul_assoc] at x4 x5 ⊢
  have key := so_alg (w (f * 6 + 0)) (w (f * 6 + 1)) (w (f * 6 + 2)) (w (f * 6 + 3)) (w (f * 6 + 4)) (w (f * 6 + 5)) _ _ _ _ _ _ _ _ _ _ _ _ _ _ _ x5 x4
  simp only [Nat.mul_assoc] at key
  unfold ov
  simp only [Nat.mul_assoc]
  exact key
theorem Sx_last {w r : Nat → Nat} {K c : Nat} (hc : c < 4) : Sx' w K r (K - K) c = 1 := by
  rw [Nat.sub_self]
  show (if c < 4 ∨ (c = 6 ∧ K = 0) then 1 else 0) = 1
  rw [if_pos (Or.inl hc)]
theorem Sx_sum {w r : Nat → Nat} (hw : Wok w) {K : Nat} (hK : 0 < K) : Sx' w K r K 6 = fb_sm (fun c => uB w r K c) 4 := by
  rw [← cut_all hw K (Nat.le_refl K), fb4]
  unfold cutN
  rw [Sx_last (by decide), Sx_last (by decide), Sx_last (by decide), Sx_last (by decide)]
  obtain ⟨e, rfl⟩ : ∃ e, K = e + 1 := ⟨K - 1, by omega⟩
  rw [uB_s6]
  omega
theorem uB_st (w r : Nat → Nat) (d c : Nat) (hc : c < 4) : uB w r (d + 1) c = rchu w (uB w r d) c * w (42 + c * 4 + r d) := uB_s w r d c hc
theorem Sx_z (w r : Nat → Nat) : Sx' w 0 r 0 6 = 1 := by
  show (if 6 < 4 ∨ (6 = 6 ∧ 0 = 0) then 1 else 0) = 1
  decide
theorem fb_s (g : Nat → Nat) (n : Nat) : fb_sm g (n + 1) = fb_sm g n + g n := rfl
theorem fb_cong {f g : Nat → Nat} : ∀ {n : Nat}, (∀ i, i < n → f i = g i) → fb_sm f n = fb_sm g n
  | 0, _ => rfl
  | n + 1, h => by rw [fb_s, fb_s, fb_cong (fun i hi => h i (by omega)), h n (by omega)]
theorem fb_add (f g : Nat → Nat) : ∀ n, fb_sm (fun i => f i + g i) n = fb_sm f n + fb_sm g n
  | 0 => rfl
  | n + 1 => by rw [fb_s, fb_s, fb_s, fb_add f g n]; omega
theorem fb_z : ∀ n, fb_sm (fun _ => 0) n = 0
  | 0 => rfl
  | n + 1 => by rw [fb_s, fb_z n]
theorem fb_k (c : Nat) : ∀ n, fb_sm (fun _ => c) n = n * c
  | 0 => (Nat.zero_mul c).symm
  | n + 1 => by rw [fb_s, fb_k c n, Nat.succ_mul]
theorem fb_swap (f : Nat → Nat → Nat) (m : Nat) : ∀ n, fb_sm (fun i => fb_sm (f i) m) n = fb_sm (fun j => fb_sm (fun i => f i j) n) m
  | 0 => (fb_z m).symm
  | n + 1 => by rw [fb_s, fb_swap f m n, ← fb_add]; rfl
theorem fb_mul (c : Nat) (f : Nat → Nat) : ∀ n, fb_sm (fun i => c * f i) n = c * fb_sm f n
  | 0 => (Nat.mul_zero c).symm
  | n + 1 => by rw [fb_s, fb_s, fb_mul c f n, Nat.mul_add]
theorem fb_mulr (c : Nat) (f : Nat → Nat) : ∀ n, fb_sm (fun i => f i * c) n = fb_sm f n * c
  | 0 => (Nat.zero_mul c).symm
  | n + 1 => by rw [fb_s, fb_s, fb_mulr c f n, Nat.add_mul]
-- the likeliest way
theorem byN_e {w r : Nat → Nat} {K d f q u : Nat} (h : K ≤ d) : byN w r K u d f q = [] := by
  cases u with
  | zero => rfl
  | succ u => show (if d < K then _ else _) = _; rw [if_neg (by omega)]
theorem byM_e {w r : Nat → Nat} {K d f u : Nat} (h : K ≤ d) : byM w r K u d f = [] := by
  cases u with
  | zero => rfl
  | succ u => show (if d < K then _ else _) = _; rw [if_neg (by omega)]
theorem byN_rk {w r : Nat → Nat} (hw : Wok w) {K : Nat} (hK : K ≤ 6) : ∀ u d f, d ≤ K → f ≤ 6 → 0 < Cx' w K r (K - d) f → mu K d f < u → byN w r K u d f (rkN w r K d f (byM w r K u d f)) = byM w r K u d f
  | 0, _, _, _, _, _, h => absurd h (by omega)
  | u + 1, d, f, hd, hf, hC, hm => by
    by_cases hdK : d < K
    · have ho := (okM_iff.mp (chM_ok hw hdK hC)).1
      have ht := chM_lt w r K d f
      have h2 := rt_step ho
      have hms := mu_step (f := f) hw hdK ht h2.1
      have hC2 : 0 < Cx' w K r (K - nx (chM w r K d f) d) (chM w r K d f) := by rw [← h2.2]; exact ho
      have hnx : nx (chM w r K d f) d ≤ K := by unfold nx; split <;> omega
      have ih := byN_rk hw hK u (nx (chM w r K d f) d) (chM w r K d f) hnx (by omega) hC2 (by omega)
      have hrk := rk_in hw hK u (nx (chM w r K d f) d) (chM w r K d f) hnx (by omega) hC2 (by omega)
      have eM : byM w r K (u + 1) d f = chM w r K d f :: byM w r K u (nx (chM w r K d f) d) (chM w r K d f) := by
        show (if d < K then _ else _) = _
        rw [if_pos hdK]
      rw [eM]
      have eR : rkN w r K d f (chM w r K d f :: byM w r K u (nx (chM w r K d f) d) (chM w r K d f)) = fC w r K d f (chM w r K d f) + rkN w r K (nx (chM w r K d f) d) (chM w r K d f) (byM w r K u (nx (chM w r K d f) d) (chM w r K d f)) := rfl
      rw [eR]
      generalize hR : rkN w r K (nx (chM w r K d f) d) (chM w r K d f) (byM w r K u (nx (chM w r K d f) d) (chM w r K d f)) = R at *
      have e1 := fC_s w r K d f (chM w r K d f)
      have eB : chB w r K d f (fC w r K d f (chM w r K d f) + R) = chM w r K d f := chB_eq ht (by omega) (fun _ => by rw [e1, h2.2]; omega)
      show (if d < K then _ else _) = _
      rw [if_pos hdK, eB, Nat.add_sub_cancel_left, ih]
    · rw [byM_e (by omega), byN_e (by omega)]
theorem way_bst {w r : Nat → Nat} (hw : Wok w) {K : Nat} (hK : K ≤ 6) (hC : 0 < Cx' w K r K 6) : wayN w r K (rkN w r K 0 6 (wayM w r K)) = wayM w r K := byN_rk hw hK 19 0 6 (by omega) (by omega) hC (by unfold mu; simp; omega)
theorem prM {w r : Nat → Nat} (hw : Wok w) {K : Nat} (hK : K ≤ 6) : ∀ u d f, d ≤ K → f ≤ 6 → 0 < Cx' w K r (K - d) f → mu K d f < u → prN w r K d f (byM w r K u d f) = Mx' w K r (K - d) f
  | 0, _, _, _, _, _, h => absurd h (by omega)
  | u + 1, d, f, hd, hf, hC, hm => by
    by_cases hdK : d < K
    · have hok := okM_iff.mp (chM_ok hw hdK hC)
      have ho := hok.1
      have ht := chM_lt w r K d f
      have h2 := rt_step ho
      have hms := mu_step (f := f) hw hdK ht h2.1
      have hC2 : 0 < Cx' w K r (K - nx (chM w r K d f) d) (chM w r K d f) := by rw [← h2.2]; exact ho
      have hnx : nx (chM w r K d f) d ≤ K := by unfold nx; split <;> omega
      have ih := prM hw hK u (nx (chM w r K d f) d) (chM w r K d f) hnx (by omega) hC2 (by omega)
      have eM : byM w r K (u + 1) d f = chM w r K d f :: byM w r K u (nx (chM w r K d f) d) (chM w r K d f) := by
        show (if d < K then _ else _) = _
        rw [if_pos hdK]
      rw [eM]
      show mv w K r f (chM w r K d f) d * prN w r K (nx (chM w r K d f) d) (chM w r K d f) _ = _
      rw [ih, hok.2]
    · rw [byM_e (by omega)]
      rw [show K - d = 0 by omega] at hC ⊢
      have e1 : Cx' w K r 0 f = if f < 4 ∨ (f = 6 ∧ K = 0) then 1 else 0 := rfl
      have e2 : Mx' w K r 0 f = if f < 4 ∨ (f = 6 ∧ K = 0) then 1 else 0 := rfl
      rw [e1] at hC
      rw [e2]
      show 1 = _
      split at hC
      · rename_i h; rw [if_pos h]
      · omega
theorem prM_b {w r : Nat → Nat} (hw : Wok w) {K : Nat} (hK : K ≤ 6) (hC : 0 < Cx' w K r K 6) : prN w r K 0 6 (wayM w r K) = Mx' w K r K 6 := prM hw hK 19 0 6 (by omega) (by omega) hC (by unfold mu; simp; omega)
