-- ways as lists
def dN : Nat → List Nat → Nat
  | d, [] => d
  | d, t :: l => dN (nx t d) l
theorem dN_ge : ∀ (l : List Nat) (d : Nat), d ≤ dN d l
  | [], d => Nat.le_refl d
  | t :: l, d => by
    have := dN_ge l (nx t d)
    have h : d ≤ nx t d := by unfold nx; split <;> omega
    show d ≤ dN (nx t d) l
    omega
theorem byN_u {w r : Nat → Nat} (hw : Wok w) {K u d f q : Nat} (hd : d < K) (hq : q < Cx' w K r (K - d) f) : ∃ t, t < 6 ∧ t = chB w r K d f q ∧ 0 < mv w K r f t d ∧ fC w r K d f t ≤ q ∧ q < fC w r K d f (t + 1) ∧ q - fC w r K d f t < Cx' w K r (K - nx t d) t ∧ rtN w r K d f t = Cx' w K r (K - nx t d) t ∧ byN w r K (u + 1) d f q = t :: byN w r K u (nx t d) t (q - fC w r K d f t) := by
  have hin := chB_in hw hd hq
  have ht := chB_lt w r K d f q
  have hs := fC_s w r K d f (chB w r K d f q)
  have hst := rt_step (w := w) (r := r) (K := K) (d := d) (f := f) (t := chB w r K d f q) (by omega)
  refine ⟨chB w r K d f q, ht, rfl, hst.1, hin.1, hin.2, by rw [← hst.2]; omega, hst.2, ?_⟩
  show (if d < K then _ else _) = _
  rw [if_pos hd]
theorem byN_ind {w r : Nat → Nat} (hw : Wok w) {K : Nat} {P : Nat → Nat → List Nat → Prop} (h0 : ∀ f, 0 < Cx' w K r 0 f → P K f []) (hs : ∀ d f t l, d < K → f ≤ 6 → t < 6 → 0 < mv w K r f t d → P (nx t d) t l → P d f (t :: l)) : ∀ u d f q, d ≤ K → f ≤ 6 → q < Cx' w K r (K - d) f → mu K d f < u → P d f (byN w r K u d f q)
  | 0, _, _, _, _, _, _, h => absurd h (by omega)
  | u + 1, d, f, q, hd, hf, hq, hm => by
    by_cases hdK : d < K
    · obtain ⟨t, ht, -, hmv, h1, h2, h3, h4, e⟩ := byN_u (u := u) hw hdK hq
      rw [e]
      have hms := mu_step hw hdK ht hmv
      exact hs d f t _ hdK hf ht hmv (byN_ind hw h0 hs u (nx t d) t _ (by unfold nx; split <;> omega) (by omega) h3 (by omega))
    · rw [byN_e (by omega), show d = K by omega]
      rw [show K - d = 0 by omega] at hq
      exact h0 f (by omega)
/-- what is so of a way of the row -/
def WOK (w r : Nat → Nat) (K d f : Nat) (l : List Nat) : Prop := 0 < prN w r K d f l ∧ dN d l = K ∧ (∀ i, i < l.length → l.getD i 0 < 6) ∧ l.length ≤ mu K d f ∧ (l = [] → f < 4 ∨ f = 6) ∧ (0 < l.length → l.getD (l.length - 1) 0 < 4) ∧ prN w r K d f l ≤ Mx' w K r (K - d) f
theorem fM_ge (w r : Nat → Nat) (K d f : Nat) {t : Nat} (hm : 0 < mv w K r f t d) : ∀ i, t < i → mv w K r f t d * Mx' w K r (K - nx t d) t ≤ fM w r K d f i
  | 0, h => absurd h (by omega)
  | i + 1, h => by
    by_cases e : t = i
    · subst e; rw [fM_p hm]; exact Nat.le_max_right _ _
    · have ih := fM_ge w r K d f hm i (by omega)
      by_cases hi : 0 < mv w K r f i d
      · rw [fM_p hi]; exact Nat.le_trans ih (Nat.le_max_left _ _)
      · rw [fM_n (by omega)]; exact ih
theorem way_ok {w r : Nat → Nat} (hw : Wok w) {K : Nat} {u d f q : Nat} (hd : d ≤ K) (hf : f ≤ 6) (hq : q < Cx' w K r (K - d) f) (hm : mu K d f < u) : WOK w r K d f (byN w r K u d f q) := by
  refine byN_ind (P := WOK w r K) hw (fun f h => ?_) (fun d f t l hdK hf6 ht hmv h => ?_) u d f q hd hf hq hm
  · have e : Cx' w K r 0 f = if f < 4 ∨ (f = 6 ∧ K = 0) then 1 else 0 := rfl
    have e2 : Mx' w K r 0 f = if f < 4 ∨ (f = 6 ∧ K = 0) then 1 else 0 := rfl
    rw [e] at h
    by_cases hc : f < 4 ∨ (f = 6 ∧ K = 0)
    · refine ⟨Nat.zero_lt_one, rfl, fun i hi => absurd hi (Nat.not_lt_zero i), Nat.zero_le _, fun _ => hc.elim Or.inl (fun z => Or.inr z.1), fun h => absurd h (Nat.lt_irrefl 0), ?_⟩
      rw [Nat.sub_self, e2, if_pos hc]; exact Nat.le_refl 1
    · rw [if_neg hc] at h; omega
  · obtain ⟨a1, a2, a3, a4, a5, a6, a7⟩ := h
    have hms := mu_step hw hdK ht hmv
    refine ⟨Nat.mul_pos hmv a1, a2, fun i hi => ?_, ?_, (by intro q; cases q), fun _ => ?_, ?_⟩
    · cases i with
      | zero => exact ht
      | succ i => exact a3 i (Nat.lt_of_succ_lt_succ hi)
    · show l.length + 1 ≤ _; omega
    · cases l with
      | nil => rcases a5 rfl with h | h <;> (show t < 4; omega)
      | cons x m => exact a6 (Nat.succ_pos _)
    · rw [Mx_f hw K d f hdK]
      exact Nat.le_trans (Nat.mul_le_mul_left _ a7) (fM_ge w r K d f hmv 6 ht)
theorem mu_0 (K : Nat) : mu K 0 6 = 3 * K := by unfold mu; simp
theorem way_okN {w r : Nat → Nat} (hw : Wok w) {K q : Nat} (hK : K ≤ 6) (hq : q < Cx' w K r K 6) : WOK w r K 0 6 (wayN w r K q) := way_ok hw (Nat.zero_le K) (by decide) hq (by rw [mu_0]; omega)
-- what they weigh together
theorem fb_split (g : Nat → Nat) (a : Nat) : ∀ b, fb_sm g (a + b) = fb_sm g a + fb_sm (fun i => g (a + i)) b
  | 0 => rfl
  | b + 1 => by
    have := fb_split g a b
    show fb_sm g (a + b) + g (a + b) = _
    rw [this, fb_s]
    omega
theorem way_sum {w r : Nat → Nat} (hw : Wok w) {K : Nat} : ∀ u d f, d ≤ K → f ≤ 6 → mu K d f < u → fb_sm (fun q => prN w r K d f (byN w r K u d f q)) (Cx' w K r (K - d) f) = Sx' w K r (K - d) f
  | 0, _, _, _, _, h => absurd h (by omega)
  | u + 1, d, f, hd, hf, hm => by
    by_cases hdK : d < K
    · have key : ∀ t, t ≤ 6 → fb_sm (fun q => prN w r K d f (byN w r K (u + 1) d f q)) (fC w r K d f t) = fS w r K d f t := fun t => by
        induction t with
        | zero => intro _; rfl
        | succ t ih =>
          intro ht
          rw [fC_s, fb_split, ih (by omega)]
          by_cases hmv : 0 < mv w K r f t d
          · have hms := mu_step hw hdK (show t < 6 by omega) hmv
            have hrt : rtN w r K d f t = Cx' w K r (K - nx t d) t := by unfold rtN; rw [if_pos hmv]
            have ihu := way_sum (r := r) (K := K) hw u (nx t d) t (by unfold nx; split <;> omega) (by omega) (by omega)
            rw [fS_p hmv, ← ihu, hrt, ← fb_mul]
            congr 1
            refine fb_cong (fun i hi => ?_)
            have e : chB w r K d f (fC w r K d f t + i) = t := chB_eq (by omega) (by omega) (fun _ => by rw [fC_s, hrt]; omega)
            have eb : byN w r K (u + 1) d f (fC w r K d f t + i) = t :: byN w r K u (nx t d) t i := by
              show (if d < K then _ else _) = _
              rw [if_pos hdK, e, Nat.add_sub_cancel_left]
            rw [eb]
            rfl
          · have hrt : rtN w r K d f t = 0 := by unfold rtN; rw [if_neg hmv]
            rw [fS_n (by omega), hrt]
            rfl
      rw [Cx_f hw K d f hdK, Sx_f hw K d f hdK]
      exact key 6 (Nat.le_refl 6)
    · rw [show K - d = 0 by omega]
      have e : Cx' w K r 0 f = if f < 4 ∨ (f = 6 ∧ K = 0) then 1 else 0 := rfl
      have e2 : Sx' w K r 0 f = if f < 4 ∨ (f = 6 ∧ K = 0) then 1 else 0 := rfl
      rw [e, e2]
      split
      · show 0 + prN w r K d f (byN w r K (u + 1) d f 0) = 1
        rw [byN_e (by omega)]; rfl
      · rfl
theorem way_T {w r : Nat → Nat} (hw : Wok w) {K : Nat} : fb_sm (fun q => prN w r K 0 6 (wayN w r K q)) (Cx' w K r K 6) = Sx' w K r K 6 ∨ 6 < K := by
  by_cases h : K ≤ 6
  · exact Or.inl (way_sum hw 19 0 6 (Nat.zero_le K) (by decide) (by rw [mu_0]; omega))
  · exact Or.inr (by omega)
-- their order
def LxL (l m : List Nat) : Prop := ∃ k, k < l.length ∧ k < m.length ∧ (∀ i, i < k → l.getD i 0 = m.getD i 0) ∧ l.getD k 0 < m.getD k 0
theorem LxL_c {l m : List Nat} (t : Nat) (h : LxL l m) : LxL (t :: l) (t :: m) := by
  obtain ⟨k, h1, h2, h3, h4⟩ := h
  refine ⟨k + 1, Nat.succ_lt_succ h1, Nat.succ_lt_succ h2, fun i hi => ?_, h4⟩
  cases i with
  | zero => rfl
  | succ i => exact h3 i (by omega)
theorem way_lx {w r : Nat → Nat} (hw : Wok w) {K : Nat} : ∀ u d f q, d ≤ K → f ≤ 6 → q + 1 < Cx' w K r (K - d) f → mu K d f < u → LxL (byN w r K u d f q) (byN w r K u d f (q + 1))
  | 0, _, _, _, _, _, _, h => absurd h (by omega)
  | u + 1, d, f, q, hd, hf, hq, hm => by
    by_cases hdK : d < K
    · obtain ⟨t, ht, -, hmv, h1, h2, h3, h4, e⟩ := byN_u (u := u) hw hdK (show q < Cx' w K r (K - d) f by omega)
      obtain ⟨t', ht', -, hmv', h1', h2', h3', h4', e'⟩ := byN_u (u := u) hw hdK hq
      rw [e, e']
      by_cases et : t = t'
      · subst et
        have hms := mu_step hw hdK ht hmv
        refine LxL_c t ?_
        rw [show q + 1 - fC w r K d f t = q - fC w r K d f t + 1 by omega] at h3' ⊢
        exact way_lx hw u (nx t d) t _ (by unfold nx; split <;> omega) (by omega) h3' (by omega)
      · have hlt : t < t' := by
          rcases Nat.lt_or_ge t t' with h | h
          · exact h
          · have := fC_mono (w := w) (r := r) (K := K) (d := d) (f := f) (show t' + 1 ≤ t by omega)
            omega
        exact ⟨0, Nat.succ_pos _, Nat.succ_pos _, fun i hi => absurd hi (Nat.not_lt_zero i), hlt⟩
    · rw [show K - d = 0 by omega] at hq
      have e : Cx' w K r 0 f = if f < 4 ∨ (f = 6 ∧ K = 0) then 1 else 0 := rfl
      rw [e] at hq
      split at hq <;> omega
theorem way_lxN {w r : Nat → Nat} (hw : Wok w) {K q : Nat} (hK : K ≤ 6) (h0 : 0 < q) (hq : q < Cx' w K r K 6) : LxL (wayN w r K (q - 1)) (wayN w r K q) := by
  have h := way_lx (r := r) hw 19 0 6 (q - 1) (Nat.zero_le K) (by decide) (by rw [Nat.sub_add_cancel h0]; exact hq) (by rw [mu_0]; omega)
  rw [Nat.sub_add_cancel h0] at h
  exact h
-- the likeliest one
theorem chM_fst {w r : Nat → Nat} {K d f i : Nat} (h : i < chM w r K d f) : ¬ okM w r K d f i = true := by
  unfold chM at h
  intro hq
  have hc : i = 0 ∨ i = 1 ∨ i = 2 ∨ i = 3 ∨ i = 4 ∨ 5 ≤ i := by omega
  by_cases k0 : okM w r K d f 0 = true
  · rw [if_pos k0] at h; omega
  rw [if_neg k0] at h
  by_cases k1 : okM w r K d f 1 = true
  · rw [if_pos k1] at h
    rcases hc with rfl | rfl | rfl | rfl | rfl | hc <;> first | exact k0 hq | omega
  rw [if_neg k1] at h
  by_cases k2 : okM w r K d f 2 = true
  · rw [if_pos k2] at h
    rcases hc with rfl | rfl | rfl | rfl | rfl | hc <;> first | exact k0 hq | exact k1 hq | omega
  rw [if_neg k2] at h
  by_cases k3 : okM w r K d f 3 = true
  · rw [if_pos k3] at h
    rcases hc with rfl | rfl | rfl | rfl | rfl | hc <;> first | exact k0 hq | exact k1 hq | exact k2 hq | omega
  rw [if_neg k3] at h
  by_cases k4 : okM w r K d f 4 = true
  · rw [if_pos k4] at h
    rcases hc with rfl | rfl | rfl | rfl | rfl | hc <;> first | exact k0 hq | exact k1 hq | exact k2 hq | exact k3 hq | omega
  rw [if_neg k4] at h
  rcases hc with rfl | rfl | rfl | rfl | rfl | hc <;> first | exact k0 hq | exact k1 hq | exact k2 hq | exact k3 hq | exact k4 hq | omega
theorem way_fst {w r : Nat → Nat} (hw : Wok w) {K : Nat} : ∀ u d f q, d ≤ K → f ≤ 6 → 0 < Cx' w K r (K - d) f → q < rkN w r K d f (byM w r K u d f) → q < Cx' w K r (K - d) f → mu K d f < u → prN w r K d f (byN w r K u d f q) < Mx' w K r (K - d) f
  | 0, _, _, _, _, _, _, _, _, h => absurd h (by omega)
  | u + 1, d, f, q, hd, hf, hC, hq, hqC, hm => by
    by_cases hdK : d < K
    · obtain ⟨t, ht, -, hmv, h1, h2, h3, h4, e⟩ := byN_u (u := u) hw hdK hqC
      rw [e]
      have hok := okM_iff.mp (chM_ok hw hdK hC)
      have eM : byM w r K (u + 1) d f = chM w r K d f :: byM w r K u (nx (chM w r K d f) d) (chM w r K d f) := by
        show (if d < K then _ else _) = _
        rw [if_pos hdK]
      rw [eM] at hq
      have hq : q < fC w r K d f (chM w r K d f) + rkN w r K (nx (chM w r K d f) d) (chM w r K d f) (byM w r K u (nx (chM w r K d f) d) (chM w r K d f)) := hq
      have hms := mu_step hw hdK ht hmv
      have hwo := way_ok (r := r) hw (u := u) (d := nx t d) (f := t) (q := q - fC w r K d f t) (K := K) (by unfold nx; split <;> omega) (by omega) h3 (by omega)
      have hle := hwo.2.2.2.2.2.2
      have hge : mv w K r f t d * Mx' w K r (K - nx t d) t ≤ Mx' w K r (K - d) f := by rw [Mx_f hw K d f hdK]; exact fM_ge w r K d f hmv 6 ht
      show mv w K r f t d * prN w r K (nx t d) t _ < _
      by_cases et : t = chM w r K d f
      · rw [← et] at hq hok
        have hC2 : 0 < Cx' w K r (K - nx t d) t := by omega
        have ih := way_fst hw u (nx t d) t (q - fC w r K d f t) (by unfold nx; split <;> omega) (by omega) hC2 (by omega) h3 (by omega)
        rw [← hok.2]
        exact Nat.mul_lt_mul_of_pos_left ih hmv
      · have hlt : t < chM w r K d f := by
          rcases Nat.lt_or_ge t (chM w r K d f) with h | h
          · exact h
          · have h9 : chM w r K d f < t := by omega
            have := fC_mono (w := w) (r := r) (K := K) (d := d) (f := f) (show chM w r K d f + 1 ≤ t by omega)
            have hs := fC_s w r K d f (chM w r K d f)
            have h2s := rt_step hok.1
            have hms2 := mu_step hw hdK (chM_lt w r K d f) h2s.1
            have hrk : rkN w r K (nx (chM w r K d f) d) (chM w r K d f) (byM w r K u (nx (chM w r K d f) d) (chM w r K d f)) < rtN w r K d f (chM w r K d f) ∨ 6 < K := by
              by_cases hK6 : K ≤ 6
              · left
                rw [h2s.2]
                exact rk_in hw hK6 u _ _ (by unfold nx; split <;> omega) (by have := chM_lt w r K d f; omega) (by rw [← h2s.2]; exact hok.1) (by omega)
              · right; omega
            rcases hrk with hrk | hrk
            · omega
            · exfalso
              have hrl : ∀ v d f, d ≤ K → f ≤ 6 → 0 < Cx' w K r (K - d) f → mu K d f < v → rkN w r K d f (byM w r K v d f) < Cx' w K r (K - d) f := fun v => by
                induction v with
                | zero => intro d f _ _ _ h; omega
                | succ v ihv =>
                  intro d f hd hf hC hm
                  by_cases hdK : d < K
                  · have hok := okM_iff.mp (chM_ok hw hdK hC)
                    have h2s := rt_step hok.1
                    have hms := mu_step hw hdK (chM_lt w r K d f) h2s.1
                    have ih := ihv (nx (chM w r K d f) d) (chM w r K d f) (by unfold nx; split <;> omega) (by have := chM_lt w r K d f; omega) (by rw [← h2s.2]; exact hok.1) (by omega)
                    have eM : byM w r K (v + 1) d f = chM w r K d f :: byM w r K v (nx (chM w r K d f) d) (chM w r K d f) := by
                      show (if d < K then _ else _) = _
                      rw [if_pos hdK]
                    rw [eM]
                    show fC w r K d f (chM w r K d f) + _ < _
                    have hs := fC_s w r K d f (chM w r K d f)
                    have h6 := fC_mono (w := w) (r := r) (K := K) (d := d) (f := f) (show chM w r K d f + 1 ≤ 6 by have := chM_lt w r K d f; omega)
                    rw [Cx_f hw K d f hdK]
                    rw [h2s.2] at hs
                    omega
                  · rw [byM_e (by omega)]; exact hC
              have := hrl u (nx (chM w r K d f) d) (chM w r K d f) (by unfold nx; split <;> omega) (by have := chM_lt w r K d f; omega) (by rw [← h2s.2]; exact hok.1) (by omega)
              rw [← h2s.2] at this
              omega
        have hno := chM_fst hlt
        have hne : mv w K r f t d * Mx' w K r (K - nx t d) t ≠ Mx' w K r (K - d) f := fun z => hno (okM_iff.mpr ⟨by rw [h4]; omega, z⟩)
        have := Nat.mul_le_mul_left (mv w K r f t d) hle
        omega
    · rw [byM_e (by omega)] at hq
      have : q < 0 := hq
      omega
theorem mostN_fst {g : Nat → Nat} {rk M : Nat} (h1 : g rk = M) (h2 : ∀ q, q < rk → g q < M) (h0 : 0 < M) : ∀ n, (∀ q, q < n → g q ≤ M) → (n ≤ rk → (mostN g n).2 < M) ∧ (rk < n → mostN g n = (rk, M))
  | 0, _ => ⟨fun _ => h0, fun h => absurd h (Nat.not_lt_zero _)⟩
  | n + 1, h => by
    have ih := mostN_fst h1 h2 h0 n (fun q hq => h q (by omega))
    refine ⟨fun hn => ?_, fun hn => ?_⟩
    · have a := ih.1 (by omega)
      by_cases e : (mostN g n).2 < g n
      · rw [mostN_y e]; exact h2 n (by omega)
      · rw [mostN_n e]; exact a
    · by_cases e : rk = n
      · subst e
        have a := ih.1 (Nat.le_refl _)
        rw [mostN_y (by rw [h1]; exact a), h1]
      · have a := ih.2 (by omega)
        have b := h n (by omega)
        rw [mostN_n (by rw [a]; exact Nat.not_lt.mpr b), a]
theorem way_best {w r : Nat → Nat} (hw : Wok w) {K : Nat} (hK : K ≤ 6) (hC : 0 < Cx' w K r K 6) : mostN (fun q => prN w r K 0 6 (wayN w r K q)) (Cx' w K r K 6) = (rkN w r K 0 6 (wayM w r K), Mx' w K r K 6) := by
  have hM0 : 0 < Mx' w K r K 6 := (MC_pos w K r K 6).mpr hC
  have hrk := rk_lt hw hK hC
  refine (mostN_fst (M := Mx' w K r K 6) ?_ (fun q hq => ?_) hM0 _ (fun q hq => (way_okN hw hK hq).2.2.2.2.2.2)).2 hrk
  · show prN w r K 0 6 (wayN w r K (rkN w r K 0 6 (wayM w r K))) = _
    rw [way_bst hw hK hC, prM_b hw hK hC]
  · exact way_fst hw 19 0 6 q (Nat.zero_le K) (by decide) hC hq (Nat.lt_trans hq hrk) (by rw [mu_0]; omega)
-- a way gone through, coin by coin
def dkN (l : List Nat) : Nat → Nat
  | 0 => 0
  | k + 1 => nx (l.getD k 0) (dkN l k)
def pv (l : List Nat) (k : Nat) : Nat := if k = 0 then 6 else l.getD (k - 1) 0
def ppN (w r : Nat → Nat) (K : Nat) (l : List Nat) : Nat → Nat
  | 0 => 1
  | k + 1 => ppN w r K l k * mv w K r (pv l k) (l.getD k 0) (dkN l k)
theorem dr_c {l : List Nat} {k : Nat} (h : k < l.length) : l.drop k = l.getD k 0 :: l.drop (k + 1) := by
  rw [List.drop_eq_getElem_cons h, List.getD_eq_getElem?_getD, List.getElem?_eq_getElem h]
  rfl
theorem pp_d (w r : Nat → Nat) (K : Nat) (l : List Nat) : ∀ k, k ≤ l.length → ppN w r K l k * prN w r K (dkN l k) (pv l k) (l.drop k) = prN w r K 0 6 l ∧ dN (dkN l k) (l.drop k) = dN 0 l
  | 0, _ => ⟨Nat.one_mul _, rfl⟩
  | k + 1, h => by
    have ih := pp_d w r K l k (by omega)
    rw [dr_c (show k < l.length by omega)] at ih
    refine ⟨?_, ih.2⟩
    rw [← ih.1]
    show ppN w r K l k * mv w K r (pv l k) (l.getD k 0) (dkN l k) * prN w r K (nx (l.getD k 0) (dkN l k)) (l.getD (k + 1 - 1) 0) _ = ppN w r K l k * (mv w K r (pv l k) (l.getD k 0) (dkN l k) * prN w r K (nx (l.getD k 0) (dkN l k)) (l.getD k 0) _)
    rw [Nat.mul_assoc, Nat.add_sub_cancel]
theorem pp_e (w r : Nat → Nat) (K : Nat) (l : List Nat) : ppN w r K l l.length = prN w r K 0 6 l ∧ dkN l l.length = dN 0 l := by
  have h := pp_d w r K l l.length (Nat.le_refl _)
  rw [List.drop_length] at h
  exact ⟨by rw [← h.1]; exact (Nat.mul_one _).symm, h.2⟩
theorem dk_lt {w r : Nat → Nat} {K : Nat} {l : List Nat} (h : dN 0 l = K) {k : Nat} (hk : k < l.length) (hc : l.getD k 0 < 4) : dkN l k < K := by
  have h2 := (pp_d w r K l k (by omega)).2
  rw [dr_c hk, h] at h2
  have h3 : dN (nx (l.getD k 0) (dkN l k)) (l.drop (k + 1)) = K := h2
  have h4 := dN_ge (l.drop (k + 1)) (nx (l.getD k 0) (dkN l k))
  unfold nx at h4
  rw [if_pos hc] at h4
  unfold nx at h3
  rw [if_pos hc] at h3
  omega
theorem dk_le {w r : Nat → Nat} {K : Nat} {l : List Nat} (h : dN 0 l = K) {k : Nat} (hk : k ≤ l.length) : dkN l k ≤ K := by
  have h2 := (pp_d w r K l k hk).2
  have h4 := dN_ge (l.drop k) (dkN l k)
  omega
theorem pp_le {w r : Nat → Nat} (hw : Wok w) {K : Nat} {l : List Nat} : ∀ k, ppN w r K l k ≤ 9 ^ k
  | 0 => Nat.le_refl 1
  | k + 1 => by
    rw [Nat.pow_succ]
    exact Nat.mul_le_mul (pp_le hw k) (mv_le hw K r _ _ _)
/-- the number of the best way of those gone through -/
def bsW (w r : Nat → Nat) (K q : Nat) : Int32 := if q = 0 then -5 else nI (mostN (fun q => prN w r K 0 6 (wayN w r K q)) q).1
