def updf {α : Type} (f : Nat → α) (i : Nat) (v : α) : Nat → α := fun k => if k = i then v else f k
theorem up2_row {α : Type} {f : Nat → Nat → α} {a j : Nat} {x : α} : up2 f a j x a = updf (f a) j x := if_pos rfl
theorem updf_at {α : Type} {f : Nat → α} {i k : Nat} {v : α} : updf f i v k = if k = i then v else f k := rfl
theorem zr_row {α : Type} {f : Nat → Nat → α} {a : Nat} {z : α} : zr f a z a = fun _ => z := if_pos rfl
theorem lkf_hi {a : Nat} (h : 71 ≤ a) (j : Nat) : lkf a j = none := by
  have hk : (kd a).1 = 0 ∨ (kd a).1 = 1 := by
    by_cases e : a < 75
    · have : a = 71 ∨ a = 72 ∨ a = 73 ∨ a = 74 := by omega
      rcases this with rfl | rfl | rfl | rfl
      · rw [kd_71]; exact Or.inr rfl
      · rw [kd_72]; exact Or.inr rfl
      · rw [kd_73]; exact Or.inl rfl
      · rw [kd_74]; exact Or.inl rfl
    · unfold kd; rw [if_neg e]; exact Or.inl rfl
  unfold lkf
  rcases hk with e | e <;> rw [e] <;> rfl
theorem InvA_n {n n2 : Nat} {I : Ic} {L : Lc} {R : Rc} {S : ST} (h : InvA n I L R S) (h2 : 71 ≤ n2) : InvA n2 I L R S := by
  obtain ⟨a1, a2, a3, a4, a5, a6, a7⟩ := h
  refine ⟨h2, fun a j y ha hl => ?_, a3, a4, a5, a6, a7.1, a7.2.1, h2⟩
  by_cases e : a < 71
  · exact a2 a j y (by omega) hl
  · rw [lkf_hi (by omega)] at hl; cases hl
theorem InvA_hi {n : Nat} {I I1 : Ic} {L L1 : Lc} {R R1 : Rc} {S : ST} (h : InvA n I L R S) (hI : ∀ a, a < 71 → I1 a = I a) (hL : ∀ a, a < 71 → L1 a = L a) (hR : ∀ a, a < 71 → R1 a = R a) : InvA n I1 L1 R1 S := by
  obtain ⟨a1, a2, a3, a4, a5, a6, a7⟩ := h
  refine ⟨a1, fun a j y ha hl => ?_, MdI_lo a3 (fun a ha => hI a (by omega)), SI_lo a4 (fun a ha => hL a (by omega)), PadI_lo a5 (hI 6 (by decide)) (hI 7 (by decide)), ?_, ?_⟩
  · by_cases e : a < 71
    · rw [hR a e]; exact a2 a j y ha hl
    · rw [lkf_hi (by omega)] at hl; cases hl
  · have h6 := HiA_fr a6 (hI 0 (by decide)) (fun a _ h2 => hI a (by omega))
    unfold HiA at h6 ⊢
    rw [hR 4 (by decide)]
    exact h6
  · refine ⟨?_, fun k j y hk hy => a7.2.1 k j y hk (by rw [← hR k hk]; exact hy), a7.2.2⟩
    rw [hR 5 (by decide)]
    exact a7.1
theorem Wd_drop {G : Gx} {n m : Nat} {ad : Nat → Nat} {I : Ic} {L : Lc} {R : Rc} {A : Nat → Prop} {H0 H : Heap} {locs : List Loc} {s : State} (h : Wd G n ad I L R A H0 H locs s) (hm : m ≤ n) : Wd G m ad I L R A H0 H locs s := by
  refine ⟨fun k q hq => ?_, h.2.1, ⟨fun i j p q hp hq hpq => ?_, fun k q hq => ?_⟩, h.2.2.2⟩
  · obtain ⟨hk, rfl⟩ := wl_some hq
    exact h.1 k _ (wl_at (by omega))
  · obtain ⟨hi, rfl⟩ := wl_some hp
    obtain ⟨hj, rfl⟩ := wl_some hq
    exact h.2.2.1.1 i j _ _ (wl_at (by omega)) (wl_at (by omega)) hpq
  · obtain ⟨hk, rfl⟩ := wl_some hq
    exact h.2.2.1.2 k _ (wl_at (by omega))
def NoR (R : Rc) (lo hi : Nat) : Prop := ∀ a, lo ≤ a → a < hi → ∀ j, R a j = none
theorem Cl_of {n : Nat} {R : Rc} (h : Cl 71 R) (hn : NoR R 71 n) (h71 : 71 ≤ n) : Cl n R := fun k j y hk hy => by
  by_cases e : k < 71
  · have := h k j y e hy; omega
  · rw [hn k (by omega) hk j] at hy; cases hy
theorem InvA_cl {n : Nat} {I : Ic} {L : Lc} {R : Rc} {S : ST} (h : InvA n I L R S) : Cl 71 R := h.2.2.2.2.2.2.2.1
/-- what lies behind the class's cells stays -/
abbrev Fr7 (I0 I : Ic) (L0 L : Lc) (R0 R : Rc) : Prop := ∀ a, 71 ≤ a → I a = I0 a ∧ L a = L0 a ∧ R a = R0 a
theorem fr_0 {I : Ic} {L : Lc} {R : Rc} : Fr7 I I L L R R := fun _ _ => ⟨rfl, rfl, rfl⟩
theorem fr_t {I0 I1 I2 : Ic} {L0 L1 L2 : Lc} {R0 R1 R2 : Rc} (h2 : ∀ a, 71 ≤ a → I2 a = I1 a ∧ L2 a = L1 a ∧ R2 a = R1 a) (h1 : Fr7 I0 I1 L0 L1 R0 R1) : Fr7 I0 I2 L0 L2 R0 R2 := fun a ha => ⟨((h2 a ha).1).trans (h1 a ha).1, ((h2 a ha).2.1).trans (h1 a ha).2.1, ((h2 a ha).2.2).trans (h1 a ha).2.2⟩
theorem fr_n {I0 I : Ic} {L0 L : Lc} {R0 R : Rc} {n : Nat} (h : Fr7 I0 I L0 L R0 R) (h0 : NoR R0 71 n) : NoR R 71 n := fun a h1 h2 j => by rw [(h a h1).2.2]; exact h0 a h1 h2 j
/-- the end of a law's method that changes nothing behind -/
theorem PR_q {n : Nat} {ad : Nat → Nat} {I0 I : Ic} {L0 L : Lc} {R0 R : Rc} {S : ST} {x : Int32} (hA : InvA n I L R S) (hG : Fr7 I0 I L0 L R0 R) : PR n ad I0 L0 R0 (x, S) x (n, ad, I, L, R) := ⟨rfl, hA, ⟨rfl, rfl⟩, hG⟩
theorem PRl_q {n : Nat} {ad : Nat → Nat} {I0 I : Ic} {L0 L : Lc} {R0 R : Rc} {S : ST} {x : Int64} (hA : InvA n I L R S) (hG : Fr7 I0 I L0 L R0 R) : PRl n ad I0 L0 R0 (x, S) x (n, ad, I, L, R) := ⟨rfl, hA, ⟨rfl, rfl⟩, hG⟩
-- answers at known arguments
theorem aW1 {S : ST} {f t : Nat} (hf : f < 6) (ht : t < 6) : aWeight S (nI 1) (nI f) (nI t) = nI (S.1.1 (f * 6 + t)) := by
  have e : idx 1 (nI f) (nI t) = some (f * 6 + t) := by unfold idx; rw [if_neg (by decide), if_pos rfl, rng_nI hf (by decide), rng_nI ht (by decide)]
  unfold aWeight
  rw [rng_nI (show 1 < 3 by decide) (by decide)]
  simp only [e]
theorem aW0 {S : ST} {c : Nat} (hc : c < 6) : aWeight S (nI 0) (nI c) (nI 0) = nI (S.1.1 (6 * 6 + c)) := by
  have e : idx 0 (nI c) (nI 0) = some (36 + c) := by unfold idx; rw [if_pos rfl, rng_nI hc (by decide), rng_nI (show 0 < 1 by decide) (by decide)]
  unfold aWeight
  rw [rng_nI (show 0 < 3 by decide) (by decide)]
  simp only [e]
theorem aW2 {S : ST} {c t : Nat} (hc : c < 4) (ht : t < 4) : aWeight S (nI 2) (nI c) (nI t) = nI (S.1.1 (42 + c * 4 + t)) := by
  have e : idx 2 (nI c) (nI t) = some (42 + c * 4 + t) := by unfold idx; rw [if_neg (by decide), if_neg (by decide), rng_nI hc (by decide), rng_nI ht (by decide)]
  unfold aWeight
  rw [rng_nI (show 2 < 3 by decide) (by decide)]
  simp only [e]
theorem aC0 {S : ST} : aCount S (nI 0) = nI S.1.2.1 := by unfold aCount; rw [rng_nI (show 0 < 4 by decide) (by decide)]; rfl
theorem aC1 {S : ST} : aCount S (nI 1) = nI (cntW S.1.1 58) := by unfold aCount; rw [rng_nI (show 1 < 4 by decide) (by decide)]; rfl
theorem aL1 {S : ST} {p : Nat} (hp : p < S.1.2.1) (hk : S.1.2.1 ≤ 6) : aLetter S (nI p) = nI (S.1.2.2 p) := by unfold aLetter; rw [rng_nI hp (by omega)]
theorem aF1 {m : CM} {p c : Nat} (hp : p < m.2.1) (hk : m.2.1 ≤ 6) (hc : c < 4) : aFwd m (nI p) (nI c) = lN (uB m.1 m.2.2 (p + 1) c) := by unfold aFwd; rw [rng_nI hp (by omega), rng_nI hc (by decide)]
theorem aB1 {m : CM} {p c : Nat} (hp : p < m.2.1) (hk : m.2.1 ≤ 6) (hc : c < 4) : aBwd m (nI p) (nI c) = lN (Sx' m.1 m.2.1 m.2.2 (m.2.1 - (p + 1)) c) := by unfold aBwd; rw [rng_nI hp (by omega), rng_nI hc (by decide)]
theorem aO1 {m : CM} {p c y : Nat} (hp : p < m.2.1) (hk : m.2.1 ≤ 6) (hc : c < 4) (hy : y < 2) (hT : ¬ aTot m = 0) : aOdds m (nI p) (nI c) (nI y) = lowT (thr m.1 m.2.2 m.2.1 p c) (aTot m) y := by unfold aOdds; rw [rng_nI hp (by omega), rng_nI hc (by decide), rng_nI hy (by decide)]; exact if_neg hT
theorem aO0 {m : CM} {p c y : Nat} (hp : p < m.2.1) (hk : m.2.1 ≤ 6) (hc : c < 4) (hy : y < 2) (hT : aTot m = 0) : aOdds m (nI p) (nI c) (nI y) = -5 := by unfold aOdds; rw [rng_nI hp (by omega), rng_nI hc (by decide), rng_nI hy (by decide)]; exact if_pos hT
theorem aOn {m : CM} {p c : Nat} {y : Int32} (hk : m.2.1 ≤ 6) (hp : p < 7) (h : m.2.1 ≤ p ∨ 4 ≤ c) (hc : c < 7) : aOdds m (nI p) (nI c) y = -1 := by
  unfold aOdds
  rcases h with h | h
  · rw [rng_ge h (by omega)]
  · rw [rng_ge (k := c) (N := 4) h (by omega)]
    split
    · rename_i h2; cases h2
    · rfl
theorem aLa1 {m : CM} {p : Nat} (hp : p < m.2.1) (hk : m.2.1 ≤ 6) (hT : ¬ aTot m = 0) : aLikely m (nI p) = nI (bestT (fun f => thr m.1 m.2.2 m.2.1 p f) 4) := by unfold aLikely; rw [rng_nI hp (by omega)]; exact if_neg hT
theorem aLa0 {m : CM} {p : Nat} (hp : p < m.2.1) (hk : m.2.1 ≤ 6) (hT : aTot m = 0) : aLikely m (nI p) = -5 := by unfold aLikely; rw [rng_nI hp (by omega)]; exact if_pos hT
theorem ix0 {c : Nat} (hc : c < 6) : idx 0 (nI c) (nI 0) = some (6 * 6 + c) := by unfold idx; rw [if_pos rfl, rng_nI hc (by decide), rng_nI (show 0 < 1 by decide) (by decide)]
theorem ix1 {f t : Nat} (hf : f < 6) (ht : t < 6) : idx 1 (nI f) (nI t) = some (f * 6 + t) := by unfold idx; rw [if_neg (by decide), if_pos rfl, rng_nI hf (by decide), rng_nI ht (by decide)]
theorem ix2 {c t : Nat} (hc : c < 4) (ht : t < 4) : idx 2 (nI c) (nI t) = some (42 + c * 4 + t) := by unfold idx; rw [if_neg (by decide), if_neg (by decide), rng_nI hc (by decide), rng_nI ht (by decide)]
theorem aE1 {m : CM} {k y i : Nat} {c t : Int32} (hk : k < 3) (hy : y < 2) (hi : idx k c t = some i) (hT : ¬ aTot m = 0) : aExp m (nI k) c t (nI y) = lowT (exN m.1 m.2.2 m.2.1 i) (aTot m) y := by
  unfold aExp; rw [rng_nI hk (by decide), rng_nI hy (by decide)]; simp only [hi]; exact if_neg hT
theorem aE0 {m : CM} {k y i : Nat} {c t : Int32} (hk : k < 3) (hy : y < 2) (hi : idx k c t = some i) (hT : aTot m = 0) : aExp m (nI k) c t (nI y) = -5 := by
  unfold aExp; rw [rng_nI hk (by decide), rng_nI hy (by decide)]; simp only [hi]; exact if_pos hT
theorem aWe1 {m : CM} {q : Nat} (h : q < aCnt m) (hN : aCnt m < 2 ^ 31) : aWei m (nI q) = lN (prN m.1 m.2.2 m.2.1 0 6 (wayN m.1 m.2.2 m.2.1 q)) := by unfold aWei; rw [rng_nI2 h hN]
theorem aWen {m : CM} {q : Nat} (h : aCnt m ≤ q) (hN : q < 2 ^ 31) : aWei m (nI q) = -1 := by unfold aWei; rw [rng_ge h hN]
theorem aWy1 {m : CM} {q : Nat} {x : Int32} (h : q < aCnt m) (hN : aCnt m < 2 ^ 31) (hx : ¬ x.toInt < -1) : aWay m (nI q) x = tellS (wayN m.1 m.2.2 m.2.1 q) x := by unfold aWay; rw [rng_nI2 h hN]; exact if_neg hx
theorem aWyn {m : CM} {q : Nat} {x : Int32} (h : aCnt m ≤ q) (hN : q < 2 ^ 31) : aWay m (nI q) x = -1 := by unfold aWay; rw [rng_ge h hN]
theorem nI_nn {k : Nat} (h : k < 2 ^ 31) : ¬ (nI k).toInt < -1 := by rw [nI_toInt h]; omega
theorem nI_nm {k : Nat} (h : k < 2 ^ 31) : ¬ nI k = -1 := fun q => by
  have h1 := congrArg Int32.toInt q
  rw [nI_toInt h, i_m1] at h1
  omega
theorem tS1 {l : List Nat} {k : Nat} (h : k < l.length) (hl : l.length ≤ 18) : tellS l (nI k) = nI (l.getD k 0) := tell_s h hl rfl
theorem tSn {l : List Nat} {k : Nat} (h : l.length ≤ k) (hk : k < 2 ^ 31) : tellS l (nI k) = -6 := tell_n (nI_nm hk) (rng_ge h hk)
-- the script, beside the world
def qPreS (G : Gx) (n : Nat) (ad : Nat → Nat) (sz : Nat) (I : Ic) (L : Lc) (R : Rc) (b Lx : Nat) (xs : Nat → Int32) (av : List Value) : Array Value → State → Prop :=
  va_Pc av (fun U => U.heap.size = sz ∧ va_P G.1 vwCl (wl G n ad I L R) U.heap ∧ va_K G.1 vwCl (tyl G) U ∧ va_D (fun _ => True) (wl G n ad I L R) ∧ NB U ∧ va_X b Lx xs U U.heap ∧ b < U.heap.size ∧ ∀ k, k < n → b ≠ ad k)
theorem qPreS_blind {G : Gx} {n : Nat} {ad : Nat → Nat} {sz : Nat} {I : Ic} {L : Lc} {R : Rc} {b Lx : Nat} {xs : Nat → Int32} {av : List Value} : FrameBlind (qPreS G n ad sz I L R b Lx xs av) := fun a U g mk q => by
  obtain ⟨q0, q1, qP, qK, qD, qN, qX, qb, qn⟩ := q
  exact ⟨q0, q1, qP, va_K.moved (u := U) (U := U.calling g mk a) (Vm.Alike.refl U.vm) qK, qD, NB.same (s := U) rfl qN, va_X.moved (u := U) (U := U.calling g mk a) (Vm.Alike.refl U.vm) qX, qb, qn⟩
theorem qPreS_of {G : Gx} {n : Nat} {ad : Nat → Nat} {I : Ic} {L : Lc} {R : Rc} {A : Nat → Prop} {H0 H : Heap} {locs : List Loc} {s : State} {b Lx : Nat} {xs : Nat → Int32} (hW : Wd G n ad I L R A H0 H locs s) (hX : va_X b Lx xs s H0) (hbl : b < H0.size) (hbA : ¬ A b) (av : List Value) : ∀ U : State, U.heap = H → s.WarmedH U.vm → qPreS G n ad H.size I L R b Lx xs av av.toArray U := fun U hU hWm =>
  ⟨rfl, by rw [hU], by rw [hU]; exact hW.1, va_K.moved hWm.alike hW.2.1, ⟨hW.2.2.1.1, fun _ _ _ => trivial⟩, NB.moved hWm hW.2.2.2.2.2, by rw [hU]; exact va_X.moved hWm.alike (hX.kept (hW.2.2.2.1.2.1 b hbl hbA)), by rw [hU]; exact Nat.lt_of_lt_of_le hbl hW.2.2.2.1.1, fun k hk e => hbA (by rw [e]; exact hW.2.2.1.2 k _ (wl_at hk))⟩
section QS
variable {p : Program} {l : Launch} {e : Env} {Rm : Room} {s : State} {m : MethodId} {args : Array Value} {below : List Frame} {meth : Method} {c : Code} {H : Heap} {locs : List Loc} {cells slots : Nat} {Q : State → Prop} {cc : ByteArray} {pc : Nat} {ls : Array Slot} {rest st0 : List Value} {A : Nat → Prop} {H0 : Heap} {nL : Nat} {own : String} {G : Gx} {n : Nat} {ad : Nat → Nat} {I : Ic} {L : Lc} {R : Rc}
theorem q_rSS {y : MethodName} {bytes : ByteArray} {maxL mc ms index k b Lx : Nat} {xs : Nat → Int32} {ret : Option FieldType} {rm : Room} {Qc : Array Value → State → Outcome → State → Prop} {As : List Value} (hC : CallFix p m c cc nL s args GW own) (hW : Wd G n ad I L R A H0 H locs s) (hX : va_X b Lx xs s H0) (hbl : b < H0.size) (hbA : ¬ A b) (hm : mS y bytes maxL ret own k) (hl : Cond.methodLink own index y ∈ GW) (hM : Met l y (Cond.code y bytes maxL ret :: GW) rm (qPreS G n ad H.size I L R b Lx xs As) Qc mc ms (qA n ad H.size)) (hrm : rm.cells = mc ∧ rm.slots = ms) (hR : rm.frames + 1 ≤ Rm.frames ∧ 8 + (maxL + 11) + rm.locals ≤ Rm.locals) (hf : cells + mc ≤ Rm.cells ∧ slots + ms ≤ Rm.slots) (hls : ls.size = nL) (hst : st0 = As.reverse ++ rest) (hk : As.length = k) (hrs : (rest.map fun v => v.category).sum ≤ 8) (hdg : decode cc pc = .ok (.invokestatic index, 3)) :
    va_Run p l e Rm s m args below meth c H locs cells slots mc ms (F0 m pc ls st0) rest (Qc As.toArray) (qA n ad H.size) :=
  va_runS (g := F0 m pc ls st0) hC hM (cwS k hC.2.2.2.2 (gI_S hm hl) rfl hrm.1 hrm.2 hm.2 hR) ⟨qPreS_blind, qPreS_of hW hX hbl hbA _⟩ rfl hk hls hst (lv_room (ls := ls) (m := m) (rest := st0) hrs) hdg hf
/-- a positive number as a boolean: a branch, two constants -/
theorem q_bple {a t : Nat} {off off2 : Int} (hx : p.tables.exec = Jvm.exec) (hb : c.code = cc) (d0 : decode cc pc = .ok (.ifCond .le off, 3)) (d1 : decode cc (pc + 3) = .ok (.iconst 1, 1)) (d2 : decode cc (pc + 3 + 1) = .ok (.goto off2, 3)) (d3 : decode cc t = .ok (.iconst 0, 1)) (e0 : (pc : Int) + off = (t : Int)) (e2 : ((pc + 3 + 1 : Nat) : Int) + off2 = ((t + 1 : Nat) : Int)) (ha : a < 2 ^ 31) (kk : W p l e Rm s m args below meth c H locs cells slots Q (F0 m (t + 1) ls (.int (nI (bp a)) :: rest))) : W p l e Rm s m args below meth c H locs cells slots Q (F0 m pc ls (.int (nI a) :: rest)) := by
  refine q_ile (tgt := t) hx hb d0 e0 ha (fun h => ?_) (fun h => ?_)
  · refine q_ic 0 hx hb d3 (by decide) ?_
    rw [bp_n h] at kk; exact kk
  · refine q_ic 1 hx hb d1 (by decide) ?_
    refine lv_goto (tgt := t + 1) hx hb d2 e2 ?_
    rw [bp_p h] at kk; exact kk
theorem q_bpeq {a t : Nat} {off off2 : Int} (hx : p.tables.exec = Jvm.exec) (hb : c.code = cc) (d0 : decode cc pc = .ok (.ifCond .eq off, 3)) (d1 : decode cc (pc + 3) = .ok (.iconst 1, 1)) (d2 : decode cc (pc + 3 + 1) = .ok (.goto off2, 3)) (d3 : decode cc t = .ok (.iconst 0, 1)) (e0 : (pc : Int) + off = (t : Int)) (e2 : ((pc + 3 + 1 : Nat) : Int) + off2 = ((t + 1 : Nat) : Int)) (ha : a < 2 ^ 31) (kk : W p l e Rm s m args below meth c H locs cells slots Q (F0 m (t + 1) ls (.int (nI (bp a)) :: rest))) : W p l e Rm s m args below meth c H locs cells slots Q (F0 m pc ls (.int (nI a) :: rest)) := by
  refine q_ieq (tgt := t) hx hb d0 e0 ha (fun h => ?_) (fun h => ?_)
  · refine q_ic 0 hx hb d3 (by decide) ?_
    rw [bp_n h] at kk; exact kk
  · refine q_ic 1 hx hb d1 (by decide) ?_
    refine lv_goto (tgt := t + 1) hx hb d2 e2 ?_
    rw [bp_p (by omega)] at kk; exact kk
end QS
theorem q_metS {l : Launch} {G : Gx} {n : Nat} {ad : Nat → Nat} {I : Ic} {L : Lc} {R : Rc} {b Lx : Nat} {xs : Nat → Int32} {y : MethodName} {cc : ByteArray} {maxL mc ms sz : Nat} {ret : Option FieldType} {rm : Room} {av : List Value} {Qc : Array Value → State → Outcome → State → Prop} (hy : plainName y.cls = true) (hlen : (lg_sl av).length ≤ maxL)
    (body : ∀ (p : Program) (e : Env) (s : State) (m : MethodId) (below : List Frame) (meth : Method) (c : Code), CallFix p m c cc maxL s av.toArray GW y.cls → meth.sig.returnType = ret → meth.locks = false → meth.name = y.name → s.heap.size = sz → Wd G n ad I L R (qA n ad sz) s.heap s.heap [] s → va_X b Lx xs s s.heap → b < s.heap.size → ¬ qA n ad sz b → ∀ ls : Array Slot, lv_has ls maxL (lv_args 0 av) →
      W p l e rm s m av.toArray below meth c s.heap [] 0 0 (MQ below Qc av.toArray s mc ms (qA n ad sz)) (F0 m 0 ls [])) : Met l y (Cond.code y cc maxL ret :: GW) rm (qPreS G n ad sz I L R b Lx xs av) Qc mc ms (qA n ad sz) := by
  refine Met.ofW (cc := cc) (maxL := maxL) (ret := ret) hy rfl ?_
  intro p e s m args below meth c s₁ B hml hv
  obtain ⟨rfl, hsz, hP, hK, hD, hN, hX, hbl, hbn⟩ := hv
  have hts := atoms_spec (ws := Cond.code y cc maxL ret :: GW) B.pre
  rw [lg_entry_eq]
  exact body p e s m below meth c ⟨B.exec, B.bytes, hml, findClass_of_methodNamed B.named, fun w hw => hts w (List.mem_cons_of_mem _ hw)⟩ B.returns B.notSynchronized (name_of_methodNamed B.named B.method).1 hsz ⟨hP, hK, qA_self hD, va_S.rf, fun q h => Or.inr (by omega), hN⟩ hX hbl (fun q => by rcases q with ⟨k, hk, e⟩ | q; exact hbn k hk e; omega) _ (lv_entry av hlen)
theorem PR_use {n n1 : Nat} {ad ad1 : Nat → Nat} {I I1 : Ic} {L L1 : Lc} {R R1 : Rc} {ans : Int32 × ST} {z : Int32} (h : PR n ad I L R ans z (n1, ad1, I1, L1, R1)) : z = ans.1 ∧ n = n1 ∧ ad = ad1 ∧ InvA n I1 L1 R1 ans.2 ∧ ∀ a, 71 ≤ a → I1 a = I a ∧ L1 a = L a ∧ R1 a = R a := by
  obtain ⟨h1, h2, ⟨h3, h4⟩, h5⟩ := h
  have h3 : n = n1 := h3
  subst h3
  exact ⟨h1, rfl, h4, h2, h5⟩
theorem PRl_use {n n1 : Nat} {ad ad1 : Nat → Nat} {I I1 : Ic} {L L1 : Lc} {R R1 : Rc} {ans : Int64 × ST} {z : Int64} (h : PRl n ad I L R ans z (n1, ad1, I1, L1, R1)) : z = ans.1 ∧ n = n1 ∧ ad = ad1 ∧ InvA n I1 L1 R1 ans.2 ∧ ∀ a, 71 ≤ a → I1 a = I a ∧ L1 a = L a ∧ R1 a = R a := by
  obtain ⟨h1, h2, ⟨h3, h4⟩, h5⟩ := h
  have h3 : n = n1 := h3
  subst h3
  exact ⟨h1, rfl, h4, h2, h5⟩
