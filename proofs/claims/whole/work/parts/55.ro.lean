def w7I (I : Ic) (v : Nat → Nat) : Ic := fun b => if b = 72 then (fun j => if j < 58 then nI (v j) else I 72 j) else I b
theorem w7I_at {I : Ic} {v : Nat → Nat} {j : Nat} (h : j < 58) : w7I I v 72 j = nI (v j) := by
  show (if 72 = 72 then _ else _ : Nat → Int32) j = _
  rw [if_pos rfl, if_pos h]
theorem w7I_hi {I : Ic} {v : Nat → Nat} {j : Nat} (h : ¬ j < 58) : w7I I v 72 j = I 72 j := by
  show (if 72 = 72 then _ else _ : Nat → Int32) j = _
  rw [if_pos rfl, if_neg h]
theorem w7I_ne {I : Ic} {v : Nat → Nat} {b : Nat} (h : b ≠ 72) : w7I I v b = I b := if_neg h
theorem w7I_c {I : Ic} {v v' : Nat → Nat} (h : ∀ j, j < 58 → v j = v' j) : w7I I v = w7I I v' := by
  funext b
  by_cases hb : b = 72
  · subst hb
    funext j
    by_cases hj : j < 58
    · rw [w7I_at hj, w7I_at hj, h j hj]
    · rw [w7I_hi hj, w7I_hi hj]
  · rw [w7I_ne hb, w7I_ne hb]
theorem w7I_self {I : Ic} {v : Nat → Nat} (h : ∀ i, i < 58 → I 72 i = nI (v i)) : w7I I v = I := by
  funext b
  by_cases hb : b = 72
  · subst hb
    funext j
    by_cases hj : j < 58
    · rw [w7I_at hj, h j hj]
    · exact w7I_hi hj
  · exact w7I_ne hb
theorem w7I_up {I : Ic} {v : Nat → Nat} {i x : Nat} (hi : i < 58) : up2 (w7I I v) 72 i (nI x) = w7I I (fun j => if j = i then x else v j) := by
  funext b
  by_cases hb : b = 72
  · subst hb
    funext j
    rw [up2_at]
    by_cases hj : j < 58
    · by_cases e : j = i
      · rw [if_pos ⟨rfl, e⟩, w7I_at hj, if_pos e]
      · rw [if_neg (fun q => e q.2), w7I_at hj, w7I_at hj, if_neg e]
    · rw [if_neg (fun q => hj (by omega)), w7I_hi hj, w7I_hi hj]
  · rw [up2_ne hb, w7I_ne hb, w7I_ne hb]
theorem cnt0m {E v : Nat → Nat} {a z : Nat} (h : gx E a z = 0) (m : Nat) : cntF v (tg E v a z) a m = 0 := by
  induction m with
  | zero => rfl
  | succ m ih => rw [cntF_y (by unfold tg; rw [if_pos h]), ih]
theorem gx_sh {E E' : Nat → Nat} {a b : Nat} : ∀ {m : Nat}, (∀ i, i < m → E (a + i) = E' (b + i)) → gx E a m = gx E' b m
  | 0, _ => rfl
  | m + 1, h => by
    show max (gx E a m) (E (a + m)) = max (gx E' b m) (E' (b + m))
    rw [gx_sh (fun i hi => h i (by omega)), h m (by omega)]
theorem cntF_sh {u v u' v' : Nat → Nat} {a b : Nat} : ∀ {m : Nat}, (∀ i, i < m → (u (a + i) = v (a + i) ↔ u' (b + i) = v' (b + i))) → cntF u v a m = cntF u' v' b m
  | 0, _ => rfl
  | m + 1, h => by
    show cntF u v a m + _ = cntF u' v' b m + _
    rw [cntF_sh (fun i hi => h i (by omega))]
    by_cases e : u (a + m) = v (a + m)
    · rw [if_pos e, if_pos ((h m (by omega)).mp e)]
    · rw [if_neg e, if_neg (fun q => e ((h m (by omega)).mpr q))]
def AB (a b z : Nat) : Prop := ∀ i, i < z → (∀ g : Nat → Nat, rwt g (a + i) = g (b + i)) ∧ gfst (b + i) = b ∧ gsz (b + i) = z
theorem AB_b : AB 0 36 6 := fun i hi => ⟨fun g => by unfold rwt; rw [if_pos (by omega)]; congr 1; omega, by unfold gfst; rw [if_pos (by omega)]; omega, by unfold gsz; rw [if_pos (by omega)]⟩
theorem AB_s {f : Nat} (hf : f < 6) : AB (6 + 6 * f) (f * 6) 6 := fun i hi => ⟨fun g => by unfold rwt; rw [if_neg (by omega), if_pos (by omega)]; congr 1; omega, by unfold gfst; rw [if_pos (by omega)]; omega, by unfold gsz; rw [if_pos (by omega)]⟩
theorem AB_l {f : Nat} (hf : f < 4) : AB (42 + 4 * f) (42 + f * 4) 4 := fun i hi => ⟨fun g => by unfold rwt; rw [if_neg (by omega), if_neg (by omega)]; congr 1; omega, by unfold gfst; rw [if_neg (by omega)]; omega, by unfold gsz; rw [if_neg (by omega)]⟩
theorem tg_rw {E w v : Nat → Nat} {a b z : Nat} (h : AB a b z) (hv : ∀ i, i < z → v (a + i) = rwt w (a + i)) {i : Nat} (hi : i < z) : tg (rwt E) v a z (a + i) = rwt (tnew E w) (a + i) := by
  have h1 := h i hi
  rw [h1.1]
  unfold tnew tg
  rw [h1.2.1, h1.2.2, gx_sh (E' := E) (b := b) (fun i hi => (h i hi).1 E), hv i hi, h1.1, h1.1]
theorem mix_rw {E w v : Nat → Nat} {a b z : Nat} (h : AB a b z) (hv : ∀ i, i < z → v (a + i) = rwt w (a + i)) (j : Nat) : mixA v (tg (rwt E) v a z) a (a + z) j = if a ≤ j ∧ j < a + z then rwt (tnew E w) j else v j := by
  unfold mixA
  by_cases e : a ≤ j ∧ j < a + z
  · rw [if_pos e, if_pos e]
    have := tg_rw (E := E) h hv (i := j - a) (by omega)
    rw [show a + (j - a) = j by omega] at this
    exact this
  · rw [if_neg e, if_neg e]
theorem cnt_rw {E w v : Nat → Nat} {a b z : Nat} (h : AB a b z) (hv : ∀ i, i < z → v (a + i) = rwt w (a + i)) : cntF v (tg (rwt E) v a z) a z = cntF w (tnew E w) b z := cntF_sh fun i hi => by
  rw [tg_rw h hv hi, hv i hi, (h i hi).1, (h i hi).1]
/-- the weights, f coins' steps and g coins' letters being trained -/
def mT (E w : Nat → Nat) (f g : Nat) (j : Nat) : Nat := if j < 6 ∨ (6 ≤ j ∧ j < 6 + 6 * f) ∨ (42 ≤ j ∧ j < 42 + 4 * g) then rwt (tnew E w) j else rwt w j
theorem mT_b (E w : Nat → Nat) : mixA (rwt w) (tg (rwt E) (rwt w) 0 6) 0 (0 + 6) = mT E w 0 0 := by
  funext j
  rw [mix_rw AB_b (fun _ _ => rfl)]
  unfold mT
  by_cases e : j < 6
  · rw [if_pos (by omega), if_pos (by omega)]
  · rw [if_neg (by omega), if_neg (by omega)]
theorem mT_s {E w : Nat → Nat} {f : Nat} (hf : f < 6) : ∀ j, j < 58 → mixA (mT E w f f) (tg (rwt E) (mT E w f f) (6 + 6 * f) 6) (6 + 6 * f) (6 + 6 * f + 6) j = mT E w (f + 1) f j := fun j hj => by
  rw [mix_rw (AB_s hf) (w := w) (fun i hi => by unfold mT; rw [if_neg (by omega)])]
  unfold mT
  by_cases e : 6 + 6 * f ≤ j ∧ j < 6 + 6 * f + 6
  · rw [if_pos e, if_pos (by omega)]
  · rw [if_neg e]
    by_cases e2 : j < 6 ∨ (6 ≤ j ∧ j < 6 + 6 * f) ∨ (42 ≤ j ∧ j < 42 + 4 * f)
    · rw [if_pos e2, if_pos (by omega)]
    · rw [if_neg e2, if_neg (by omega)]
theorem mT_sc {E w : Nat → Nat} {f : Nat} (hf : f < 6) : cntF (mT E w f f) (tg (rwt E) (mT E w f f) (6 + 6 * f) 6) (6 + 6 * f) 6 = cntF w (tnew E w) (f * 6) 6 := cnt_rw (AB_s hf) (fun i hi => by unfold mT; rw [if_neg (by omega)])
theorem mT_l {E w : Nat → Nat} {f : Nat} (hf : f < 4) : ∀ j, j < 58 → mixA (mT E w (f + 1) f) (tg (rwt E) (mT E w (f + 1) f) (42 + 4 * f) 4) (42 + 4 * f) (42 + 4 * f + 4) j = mT E w (f + 1) (f + 1) j := fun j hj => by
  rw [mix_rw (AB_l hf) (w := w) (fun i hi => by unfold mT; rw [if_neg (by omega)])]
  unfold mT
  by_cases e : 42 + 4 * f ≤ j ∧ j < 42 + 4 * f + 4
  · rw [if_pos e, if_pos (by omega)]
  · rw [if_neg e]
    by_cases e2 : j < 6 ∨ (6 ≤ j ∧ j < 6 + 6 * (f + 1)) ∨ (42 ≤ j ∧ j < 42 + 4 * f)
    · rw [if_pos e2, if_pos (by omega)]
    · rw [if_neg e2, if_neg (by omega)]
theorem mT_lc {E w : Nat → Nat} {f : Nat} (hf : f < 4) : cntF (mT E w (f + 1) f) (tg (rwt E) (mT E w (f + 1) f) (42 + 4 * f) 4) (42 + 4 * f) 4 = cntF w (tnew E w) (42 + f * 4) 4 := cnt_rw (AB_l hf) (fun i hi => by unfold mT; rw [if_neg (by omega)])
theorem mT_n {E w : Nat → Nat} {f : Nat} (hf : 4 ≤ f) : ∀ j, j < 58 → mT E w (f + 1) f j = mT E w (f + 1) (f + 1) j := fun j hj => by
  unfold mT
  by_cases e2 : j < 6 ∨ (6 ≤ j ∧ j < 6 + 6 * (f + 1)) ∨ (42 ≤ j ∧ j < 42 + 4 * f)
  · rw [if_pos e2, if_pos (by omega)]
  · rw [if_neg e2, if_neg (by omega)]
theorem mT_6 {E w : Nat → Nat} {j : Nat} (hj : j < 58) : mT E w 6 6 j = rwt (mixA w (tnew E w) 0 58) j := by
  unfold mT
  rw [if_pos (by omega)]
  have : ∀ i, i < 58 → mixA w (tnew E w) 0 58 i = tnew E w i := fun i hi => if_pos (by omega)
  unfold rwt
  split
  · rw [this _ (by omega)]
  · split
    · rw [this _ (by omega)]
    · rw [this _ (by omega)]
theorem rwt_3 {w : Nat → Nat} (h : ∀ i, w i ≤ 3) (j : Nat) : rwt w j ≤ 3 := by
  unfold rwt; split
  · exact h _
  · split <;> exact h _
theorem mT_3 {E w : Nat → Nat} (h : ∀ i, w i ≤ 3) (f g j : Nat) : mT E w f g j ≤ 3 := by
  unfold mT; split
  · exact rwt_3 (tnew_le h) j
  · exact rwt_3 h j
/-- the different ones of the beginnings and of f coins -/
def cR (u v : Nat → Nat) : Nat → Nat
  | 0 => cntF u v 36 6
  | f + 1 => cR u v f + cntF u v (f * 6) 6 + (if f < 4 then cntF u v (42 + f * 4) 4 else 0)
theorem cR_le (u v : Nat → Nat) : ∀ f, cR u v f ≤ 6 + 10 * f
  | 0 => cntF_le u v 36 6
  | f + 1 => by
    have h1 := cR_le u v f
    have h2 := cntF_le u v (f * 6) 6
    have h3 := cntF_le u v (42 + f * 4) 4
    show cR u v f + _ + _ ≤ _
    split <;> omega
theorem cR_6 (u v : Nat → Nat) : cR u v 6 = cntF u v 0 58 := by
  have a1 := cntF_add u v 0 6 52
  have a2 := cntF_add u v 6 6 46
  have a3 := cntF_add u v 12 6 40
  have a4 := cntF_add u v 18 6 34
  have a5 := cntF_add u v 24 6 28
  have a6 := cntF_add u v 30 6 22
  have a7 := cntF_add u v 36 6 16
  have a8 := cntF_add u v 42 4 12
  have a9 := cntF_add u v 46 4 8
  have a10 := cntF_add u v 50 4 4
  have e : cR u v 6 = cntF u v 36 6 + cntF u v 0 6 + cntF u v 42 4 + cntF u v 6 6 + cntF u v 46 4 + cntF u v 12 6 + cntF u v 50 4 + cntF u v 18 6 + cntF u v 54 4 + cntF u v 24 6 + 0 + cntF u v 30 6 + 0 := rfl
  simp only [Nat.reduceAdd] at a1 a2 a3 a4 a5 a6 a7 a8 a9 a10
  omega
theorem Bh_g {w r : Nat → Nat} {K : Nat} {I I1 : Ic} {L L1 : Lc} (h : BhI w r K I L 0) (h9 : I1 79 = I 79) (h8 : L1 78 = L 78) (h0 : L1 80 = L 80) : BhI w r K I1 L1 0 := fun d t h1 h2 h3 => by
  have := h d t h1 h2 h3
  unfold Bq at this ⊢
  rw [h8, h0, h9]
  exact this
theorem Ah_g {w r : Nat → Nat} {K : Nat} {L L1 : Lc} (h : AhI w r K L) (h7 : L1 77 = L 77) : AhI w r K L1 := fun t d ht hd => by
  rw [h7]; exact h t d ht hd
theorem PB_tr {n : Nat} {I I1 I2 : Ic} {L L1 L2 : Lc} {R : Rc} {S : ST} (h : PB n I1 L1 R S I2 L2) (h1 : ∀ a, a < 71 ∨ 83 ≤ a → I1 a = I a ∧ L1 a = L a) : PB n I L R S I2 L2 :=
  ⟨h.1, fun a ha => ⟨((h.2 a ha).1).trans (h1 a ha).1, ((h.2 a ha).2).trans (h1 a ha).2⟩⟩
theorem rE_b (w r : Nat → Nat) (K : Nat) {t : Nat} (ht : t < 6) : rwt (exN w r K) t = stN w r K 6 t K := by rw [rwt_b _ ht]; exact exN_st (by decide) ht
theorem rE_s (w r : Nat → Nat) (K : Nat) {f t : Nat} (hf : f < 6) (ht : t < 6) : rwt (exN w r K) (6 + 6 * f + t) = stN w r K f t K := by rw [rwt_st _ hf ht]; exact exN_st (by omega) ht
theorem rE_l (w r : Nat → Nat) (K : Nat) {f t : Nat} (hf : f < 4) (ht : t < 4) : rwt (exN w r K) (42 + 4 * f + t) = leN w r K f t K := by rw [rwt_le]; exact exN_le hf ht
theorem rwt_B {E : Nat → Nat} {B : Nat} (h : ∀ j, E j ≤ B) (j : Nat) : rwt E j ≤ B := by
  unfold rwt; split
  · exact h _
  · split <;> exact h _

theorem cR_y (u v : Nat → Nat) {f : Nat} (h : f < 4) : cR u v f + cntF u v (f * 6) 6 + cntF u v (42 + f * 4) 4 = cR u v (f + 1) := by
  show _ = cR u v f + cntF u v (f * 6) 6 + (if f < 4 then cntF u v (42 + f * 4) 4 else 0)
  rw [if_pos h]
theorem cR_n (u v : Nat → Nat) {f : Nat} (h : ¬ f < 4) : cR u v f + cntF u v (f * 6) 6 + 0 = cR u v (f + 1) := by
  show _ = cR u v f + cntF u v (f * 6) 6 + (if f < 4 then cntF u v (42 + f * 4) 4 else 0)
  rw [if_neg h]
set_option maxRecDepth 100000 in
set_option maxHeartbeats 4000000 in
theorem k_rgroup (l : Launch) (G : Gx) (n : Nat) (ad : Nat → Nat) (sz : Nat) (I : Ic) (L : Lc) (R : Rc) (v E : Nat → Nat) (a z : Nat) (hn : 83 ≤ n) (hlk : LkOK n R) (hE : ∀ j, j < 58 → L 82 j = lN (E j)) (hEb : ∀ j, E j ≤ 1317000000000000000) (hv : ∀ j, v j ≤ 3) (haz : a + z ≤ 58) : Met l yX6_trainGroup (Cond.code yX6_trainGroup cX6_trainGroup 8 (some .int) :: GW) ({ frames := 0, cells := 0, slots := 0, locals := 0 } : Room) (qPre G n ad sz (w7I I v) L R [.ref (ad 71), .int (nI (a)), .int (nI (z))]) (qI1 G (qA n ad sz) n ad R (fun y I1 L1 => y = nI (cntF v (tg E v a z) a z) ∧ I1 = w7I I (mixA v (tg E v a z) a (a + z)) ∧ L = L1)) 0 0 (qA n ad sz) := by
  refine q_met (by decide) (Nat.le_of_ble_eq_true rfl) ?_
  intro p_ e_ s m_ below meth c_ hC hr hlk0 hin hsz hW ls hl
  subst hsz
  have hC : CallFix p_ m_ c_ cX6_trainGroup 8 s ([.ref (ad 71), .int (nI (a)), .int (nI (z))] : List Value).toArray GW "CoinRowsModel" := hC
  have hx := hC.1
  have hb := hC.2.1
  have hl : lv_has ls 8 [(0, .ref (ad 71)), (1, .int (nI (a))), (2, .int (nI (z)))] := hl
  refine q_lc 0 hx hb dX6_trainGroup_0 (by decide) ?_
  refine lv_lstore_n (lv' := [(3, .long (lN 0)), (0, .ref (ad 71)), (1, .int (nI (a))), (2, .int (nI (z)))]) hx hb dX6_trainGroup_1 rfl hl (by decide) rfl (fun ls hl => ?_)
  refine lv_iload_n hx hb dX6_trainGroup_2 rfl (lv_at hl 2 rfl) ?_
  refine lv_istore (lv' := [(5, .int (nI (a))), (3, .long (lN 0)), (0, .ref (ad 71)), (1, .int (nI (a))), (2, .int (nI (z)))]) hx hb dX6_trainGroup_3 hl (by decide) rfl (fun ls hl => ?_)
  have lp_5 : ∀ (fu_5 : Nat) (i : Nat), z - i < fu_5 → (i ≤ z) → ∀ (H : Heap) (locs : List Loc), Wd G n ad (w7I I v) L R (qA n ad s.heap.size) s.heap H locs s → ∀ ls : Array Slot, lv_has ls 8 [(0, .ref (ad 71)), (1, .int (nI (a))), (2, .int (nI (z))), (3, .long (lN (gx E a i))), (5, .int (nI (a + i)))] → W p_ l e_ ({ frames := 0, cells := 0, slots := 0, locals := 0 } : Room) s m_ ([.ref (ad 71), .int (nI (a)), .int (nI (z))] : List Value).toArray below meth c_ H locs 0 0 (MQ below (qI1 G (qA n ad s.heap.size) n ad R (fun y I1 L1 => y = nI (cntF v (tg E v a z) a z) ∧ I1 = w7I I (mixA v (tg E v a z) a (a + z)) ∧ L = L1)) ([.ref (ad 71), .int (nI (a)), .int (nI (z))] : List Value).toArray s 0 0 (qA n ad s.heap.size)) (F0 m_ 5 ls []) := by
    intro fu_5
    induction fu_5 with
    | zero =>
      intro i hm; exact absurd hm (Nat.not_lt_zero _)
    | succ fu_5 ih_5 =>
      intro i hm_5 hi H locs hW ls hl
      have hgl : gx E a i ≤ 1317000000000000000 := gx_le (fun q _ => hEb _)
      have hEi := hEb (a + i)
      refine lv_iload hx hb dX6_trainGroup_5 (lv_at hl 4 rfl) ?_
      refine lv_iload_n hx hb dX6_trainGroup_7 rfl (lv_at hl 1 rfl) ?_
      refine lv_iload_n hx hb dX6_trainGroup_8 rfl (lv_at hl 2 rfl) ?_
      refine q_iadd hx hb dX6_trainGroup_9 ?_
      refine q_cge (tgt := 43) hx hb dX6_trainGroup_10 (by decide) (by first | omega | exact Nat.lt_of_le_of_lt (hw3 _) (by decide)) (by first | omega | exact Nat.lt_of_le_of_lt (hw3 _) (by decide)) (fun c_10 => ?_) (fun c_10 => ?_)
      ·
        have ez : z = i := by omega
        subst ez
        refine q_ic 0 hx hb dX6_trainGroup_43 (by decide) ?_
        refine lv_istore (lv' := [(5, .int (nI 0)), (0, .ref (ad 71)), (1, .int (nI (a))), (2, .int (nI (z))), (3, .long (lN (gx E a z)))]) hx hb dX6_trainGroup_44 hl (by decide) rfl (fun ls hl => ?_)
        have hW := (show w7I I v = w7I I (mixA v (tg E v a z) a (a + 0)) from by rw [Nat.add_zero, mixA_0]) ▸ hW
        refine lv_iload_n hx hb dX6_trainGroup_46 rfl (lv_at hl 2 rfl) ?_
        refine lv_istore (lv' := [(6, .int (nI (a))), (5, .int (nI 0)), (0, .ref (ad 71)), (1, .int (nI (a))), (2, .int (nI (z))), (3, .long (lN (gx E a z)))]) hx hb dX6_trainGroup_47 hl (by decide) rfl (fun ls hl => ?_)
        have lp_49 : ∀ (fu_49 : Nat) (j : Nat), z - j < fu_49 → (j ≤ z) → ∀ (H : Heap) (locs : List Loc), Wd G n ad (w7I I (mixA v (tg E v a z) a (a + j))) L R (qA n ad s.heap.size) s.heap H locs s → ∀ ls : Array Slot, lv_has ls 8 [(0, .ref (ad 71)), (1, .int (nI (a))), (2, .int (nI (z))), (3, .long (lN (gx E a z))), (5, .int (nI (cntF v (tg E v a z) a j))), (6, .int (nI (a + j)))] → W p_ l e_ ({ frames := 0, cells := 0, slots := 0, locals := 0 } : Room) s m_ ([.ref (ad 71), .int (nI (a)), .int (nI (z))] : List Value).toArray below meth c_ H locs 0 0 (MQ below (qI1 G (qA n ad s.heap.size) n ad R (fun y I1 L1 => y = nI (cntF v (tg E v a z) a z) ∧ I1 = w7I I (mixA v (tg E v a z) a (a + z)) ∧ L = L1)) ([.ref (ad 71), .int (nI (a)), .int (nI (z))] : List Value).toArray s 0 0 (qA n ad s.heap.size)) (F0 m_ 49 ls []) := by
          intro fu_49
          induction fu_49 with
          | zero =>
            intro j hm; exact absurd hm (Nat.not_lt_zero _)
          | succ fu_49 ih_49 =>
            intro j hm_49 hj H locs hW ls hl
            have hcl := cntF_le v (tg E v a z) a j
            have hgl : gx E a z ≤ 1317000000000000000 := gx_le (fun q _ => hEb _)
            refine lv_iload hx hb dX6_trainGroup_49 (lv_at hl 5 rfl) ?_
            refine lv_iload_n hx hb dX6_trainGroup_51 rfl (lv_at hl 1 rfl) ?_
            refine lv_iload_n hx hb dX6_trainGroup_52 rfl (lv_at hl 2 rfl) ?_
            refine q_iadd hx hb dX6_trainGroup_53 ?_
            refine q_cge (tgt := 122) hx hb dX6_trainGroup_54 (by decide) (by first | omega | exact Nat.lt_of_le_of_lt (hw3 _) (by decide)) (by first | omega | exact Nat.lt_of_le_of_lt (hw3 _) (by decide)) (fun c_54 => ?_) (fun c_54 => ?_)
            ·
              refine lv_iload hx hb dX6_trainGroup_122 (lv_at hl 4 rfl) ?_
              have ej : z = j := by omega
              subst ej
              exact q_iret1 hC hW hr hlk0 ⟨rfl, rfl, rfl⟩ dX6_trainGroup_124
            ·
              refine lv_lload_n hx hb dX6_trainGroup_57 rfl (lv_at hl 3 rfl) ?_
              refine q_lc 0 hx hb dX6_trainGroup_58 (by decide) ?_
              refine q_lcmp hx hb dX6_trainGroup_59 ?_
              refine q_lle (tgt := 122) hx hb dX6_trainGroup_60 (by decide) (by first | decide | omega | assumption) (by first | decide | omega | assumption) (fun c_60 => ?_) (fun c_60 => ?_)
              ·
                have hg00 : gx E a z = 0 := by omega
                refine lv_iload hx hb dX6_trainGroup_122 (lv_at hl 4 rfl) ?_
                exact q_iret1 hC hW hr hlk0 ⟨by rw [cnt0m hg00, cnt0m hg00], by rw [mix0 hg00, mix0 hg00], rfl⟩ dX6_trainGroup_124
              ·
                refine lv_ldc2 (v := lN 6) hx hb hC.2.2.2.1 (hC.2.2.2.2 _ gw_704) dX6_trainGroup_63 ?_
                refine lv_aload_n hx hb dX6_trainGroup_66 rfl (lv_at hl 0 rfl) ?_
                refine g_6_14 (x := 71) (y := 82) hC hW (by omega) kd_71 gw_497 (hlk 71 14 82 (by omega) rfl) dX6_trainGroup_67 ?_
                refine lv_iload hx hb dX6_trainGroup_70 (lv_at hl 5 rfl) ?_
                refine q_lald (x := 82) (i := a + j) hC hW (by omega) kd_82 (by omega) dX6_trainGroup_72 ?_
                refine q_top (v2 := .long (lN (E (a + j)))) (congrArg _ (hE _ (by omega))) ?_
                refine q_lmul hx hb dX6_trainGroup_73 ?_
                refine lv_lload_n hx hb dX6_trainGroup_74 rfl (lv_at hl 3 rfl) ?_
                refine q_ladd hx hb dX6_trainGroup_75 ?_
                refine lv_ldc2 (v := lN 2) hx hb hC.2.2.2.1 (hC.2.2.2.2 _ gw_705) dX6_trainGroup_76 ?_
                refine lv_lload_n hx hb dX6_trainGroup_79 rfl (lv_at hl 3 rfl) ?_
                refine q_lmul hx hb dX6_trainGroup_80 ?_
                have hg0 : 0 < gx E a z := by omega
                have hEj := hEb (a + j)
                refine lv_ldiv hx hb dX6_trainGroup_81 (div_ne (by omega) (by omega)) ?_
                refine q_top (v2 := .long (lN (tg E v a z (a + j)))) (by rw [pk_lDiv (by omega) (by omega) (by omega)]; unfold tg tr1; rw [if_neg (by omega)]) ?_
                refine q_l2i hx hb dX6_trainGroup_82 ?_
                have ht3 : tg E v a z (a + j) ≤ 3 := tg_le (hv _) (by omega) (by omega)
                have hvj := hv (a + j)
                refine lv_istore (lv' := [(7, .int (nI (tg E v a z (a + j)))), (0, .ref (ad 71)), (1, .int (nI (a))), (2, .int (nI (z))), (3, .long (lN (gx E a z))), (5, .int (nI (cntF v (tg E v a z) a j))), (6, .int (nI (a + j)))]) hx hb dX6_trainGroup_83 hl (by decide) rfl (fun ls hl => ?_)
                refine lv_iload hx hb dX6_trainGroup_85 (lv_at hl 5 rfl) ?_
                refine lv_iload hx hb dX6_trainGroup_87 (lv_at hl 0 rfl) ?_
                refine lv_aload_n hx hb dX6_trainGroup_89 rfl (lv_at hl 1 rfl) ?_
                refine g_6_0 (x := 71) (y := 72) hC hW (by omega) kd_71 gw_483 (hlk 71 0 72 (by omega) rfl) dX6_trainGroup_90 ?_
                refine lv_iload hx hb dX6_trainGroup_93 (lv_at hl 6 rfl) ?_
                refine q_iald (x := 72) (i := a + j) hC hW (by omega) kd_72 (by omega) dX6_trainGroup_95 ?_
                refine q_top (v2 := .int (nI (v (a + j)))) (congrArg _ (by rw [w7I_at (by omega), mixA_at])) ?_
                refine q_ceq (tgt := 103) hx hb dX6_trainGroup_96 (by decide) (by first | omega | exact Nat.lt_of_le_of_lt (hw3 _) (by decide)) (by first | omega | exact Nat.lt_of_le_of_lt (hw3 _) (by decide)) (fun c_96 => ?_) (fun c_96 => ?_)
                ·
                  have hz : tg E v a z (a + j) = v (a + j) := c_96
                  refine q_ic 0 hx hb dX6_trainGroup_103 (by decide) ?_
                  refine q_iadd hx hb dX6_trainGroup_104 ?_
                  refine q_top (v2 := .int (nI (cntF v (tg E v a z) a (j + 1)))) (by rw [cntF_y hz.symm, Nat.add_zero]) ?_
                  refine lv_istore (lv' := [(5, .int (nI (cntF v (tg E v a z) a (j + 1)))), (7, .int (nI (tg E v a z (a + j)))), (0, .ref (ad 71)), (1, .int (nI (a))), (2, .int (nI (z))), (3, .long (lN (gx E a z))), (6, .int (nI (a + j)))]) hx hb dX6_trainGroup_105 hl (by decide) rfl (fun ls hl => ?_)
                  refine lv_aload_n hx hb dX6_trainGroup_107 rfl (lv_at hl 2 rfl) ?_
                  refine g_6_0 (x := 71) (y := 72) hC hW (by omega) kd_71 gw_483 (hlk 71 0 72 (by omega) rfl) dX6_trainGroup_108 ?_
                  refine lv_iload hx hb dX6_trainGroup_111 (lv_at hl 6 rfl) ?_
                  refine lv_iload hx hb dX6_trainGroup_113 (lv_at hl 1 rfl) ?_
                  refine q_iast (x := 72) (i := a + j) (v := nI (tg E v a z (a + j))) hC hW (by omega) kd_72 (by omega) dX6_trainGroup_115 (fun H locs hW => ?_)
                  rw [w7I_up (by omega), mixA_s] at hW
                  refine q_iinc (z2 := (a + j) + 1) (lv' := [(6, .int (nI ((a + j) + 1))), (5, .int (nI (cntF v (tg E v a z) a (j + 1)))), (7, .int (nI (tg E v a z (a + j)))), (0, .ref (ad 71)), (1, .int (nI (a))), (2, .int (nI (z))), (3, .long (lN (gx E a z)))]) hx hb dX6_trainGroup_116 hl (k := 6) rfl (inc_up _ 1 (by decide)) (by decide) rfl (fun ls hl => ?_)
                  refine lv_goto (tgt := 49) hx hb dX6_trainGroup_119 (by decide) ?_
                  exact ih_49 (j + 1) (by omega) (by omega) _ _ hW _ (lv_sub hl [3, 4, 5, 6, 1, 0] rfl)
                ·
                  have hz : ¬ tg E v a z (a + j) = v (a + j) := c_96
                  refine q_ic 1 hx hb dX6_trainGroup_99 (by decide) ?_
                  refine lv_goto (tgt := 104) hx hb dX6_trainGroup_100 (by decide) ?_
                  refine q_iadd hx hb dX6_trainGroup_104 ?_
                  refine q_top (v2 := .int (nI (cntF v (tg E v a z) a (j + 1)))) (by rw [cntF_n (fun q9 => hz q9.symm)]) ?_
                  refine lv_istore (lv' := [(5, .int (nI (cntF v (tg E v a z) a (j + 1)))), (7, .int (nI (tg E v a z (a + j)))), (0, .ref (ad 71)), (1, .int (nI (a))), (2, .int (nI (z))), (3, .long (lN (gx E a z))), (6, .int (nI (a + j)))]) hx hb dX6_trainGroup_105 hl (by decide) rfl (fun ls hl => ?_)
                  refine lv_aload_n hx hb dX6_trainGroup_107 rfl (lv_at hl 2 rfl) ?_
                  refine g_6_0 (x := 71) (y := 72) hC hW (by omega) kd_71 gw_483 (hlk 71 0 72 (by omega) rfl) dX6_trainGroup_108 ?_
                  refine lv_iload hx hb dX6_trainGroup_111 (lv_at hl 6 rfl) ?_
                  refine lv_iload hx hb dX6_trainGroup_113 (lv_at hl 1 rfl) ?_
                  refine q_iast (x := 72) (i := a + j) (v := nI (tg E v a z (a + j))) hC hW (by omega) kd_72 (by omega) dX6_trainGroup_115 (fun H locs hW => ?_)
                  rw [w7I_up (by omega), mixA_s] at hW
                  refine q_iinc (z2 := (a + j) + 1) (lv' := [(6, .int (nI ((a + j) + 1))), (5, .int (nI (cntF v (tg E v a z) a (j + 1)))), (7, .int (nI (tg E v a z (a + j)))), (0, .ref (ad 71)), (1, .int (nI (a))), (2, .int (nI (z))), (3, .long (lN (gx E a z)))]) hx hb dX6_trainGroup_116 hl (k := 6) rfl (inc_up _ 1 (by decide)) (by decide) rfl (fun ls hl => ?_)
                  refine lv_goto (tgt := 49) hx hb dX6_trainGroup_119 (by decide) ?_
                  exact ih_49 (j + 1) (by omega) (by omega) _ _ hW _ (lv_sub hl [3, 4, 5, 6, 1, 0] rfl)
        exact lp_49 (z + 1) 0 (by omega) (by omega) _ _ hW _ (lv_sub hl [2, 3, 4, 5, 1, 0] rfl)
      ·
        refine lv_aload_n hx hb dX6_trainGroup_13 rfl (lv_at hl 0 rfl) ?_
        refine g_6_14 (x := 71) (y := 82) hC hW (by omega) kd_71 gw_497 (hlk 71 14 82 (by omega) rfl) dX6_trainGroup_14 ?_
        refine lv_iload hx hb dX6_trainGroup_17 (lv_at hl 4 rfl) ?_
        refine q_lald (x := 82) (i := a + i) hC hW (by omega) kd_82 (by omega) dX6_trainGroup_19 ?_
        refine q_top (v2 := .long (lN (E (a + i)))) (congrArg _ (hE _ (by omega))) ?_
        refine lv_lload_n hx hb dX6_trainGroup_20 rfl (lv_at hl 3 rfl) ?_
        refine q_lcmp hx hb dX6_trainGroup_21 ?_
        refine q_lle (tgt := 35) hx hb dX6_trainGroup_22 (by decide) (by first | decide | omega | assumption) (by first | decide | omega | assumption) (fun c_22 => ?_) (fun c_22 => ?_)
        ·
          refine lv_lload_n hx hb dX6_trainGroup_35 rfl (lv_at hl 3 rfl) ?_
          refine q_top (v2 := .long (lN (gx E a (i + 1)))) (congrArg (fun z => Value.long (lN z)) (show gx E a i = gx E a (i + 1) from by show gx E a i = max (gx E a i) (E (a + i)); omega)) ?_
          refine lv_lstore_n (lv' := [(3, .long (lN (gx E a (i + 1)))), (0, .ref (ad 71)), (1, .int (nI (a))), (2, .int (nI (z))), (5, .int (nI (a + i)))]) hx hb dX6_trainGroup_36 rfl hl (by decide) rfl (fun ls hl => ?_)
          refine q_iinc (z2 := (a + i) + 1) (lv' := [(5, .int (nI ((a + i) + 1))), (3, .long (lN (gx E a (i + 1)))), (0, .ref (ad 71)), (1, .int (nI (a))), (2, .int (nI (z)))]) hx hb dX6_trainGroup_37 hl (k := 4) rfl (inc_up _ 1 (by decide)) (by decide) rfl (fun ls hl => ?_)
          refine lv_goto (tgt := 5) hx hb dX6_trainGroup_40 (by decide) ?_
          exact ih_5 (i + 1) (by omega) (by omega) _ _ hW _ (lv_sub hl [2, 3, 4, 1, 0] rfl)
        ·
          refine lv_aload_n hx hb dX6_trainGroup_25 rfl (lv_at hl 0 rfl) ?_
          refine g_6_14 (x := 71) (y := 82) hC hW (by omega) kd_71 gw_497 (hlk 71 14 82 (by omega) rfl) dX6_trainGroup_26 ?_
          refine lv_iload hx hb dX6_trainGroup_29 (lv_at hl 4 rfl) ?_
          refine q_lald (x := 82) (i := a + i) hC hW (by omega) kd_82 (by omega) dX6_trainGroup_31 ?_
          refine q_top (v2 := .long (lN (E (a + i)))) (congrArg _ (hE _ (by omega))) ?_
          refine lv_goto (tgt := 36) hx hb dX6_trainGroup_32 (by decide) ?_
          refine q_top (v2 := .long (lN (gx E a (i + 1)))) (congrArg (fun z => Value.long (lN z)) (show E (a + i) = gx E a (i + 1) from by show E (a + i) = max (gx E a i) (E (a + i)); omega)) ?_
          refine lv_lstore_n (lv' := [(3, .long (lN (gx E a (i + 1)))), (0, .ref (ad 71)), (1, .int (nI (a))), (2, .int (nI (z))), (5, .int (nI (a + i)))]) hx hb dX6_trainGroup_36 rfl hl (by decide) rfl (fun ls hl => ?_)
          refine q_iinc (z2 := (a + i) + 1) (lv' := [(5, .int (nI ((a + i) + 1))), (3, .long (lN (gx E a (i + 1)))), (0, .ref (ad 71)), (1, .int (nI (a))), (2, .int (nI (z)))]) hx hb dX6_trainGroup_37 hl (k := 4) rfl (inc_up _ 1 (by decide)) (by decide) rfl (fun ls hl => ?_)
          refine lv_goto (tgt := 5) hx hb dX6_trainGroup_40 (by decide) ?_
          exact ih_5 (i + 1) (by omega) (by omega) _ _ hW _ (lv_sub hl [2, 3, 4, 1, 0] rfl)
  exact lp_5 (z + 1) 0 (by omega) (by omega) _ _ hW _ (lv_sub hl [2, 3, 4, 1, 0] rfl)
set_option maxRecDepth 100000 in
set_option maxHeartbeats 4000000 in
theorem k_rtrain (l : Launch) (G : Gx) (n : Nat) (ad : Nat → Nat) (sz : Nat) (I : Ic) (L : Lc) (R : Rc)  (w : Nat → Nat) (K : Nat) (ro : Nat → Nat) (hc : Nat) (hi : Nat → CM) (sv : Nat → Option CM) (pn : Nat) (ch : Nat → Nat) (hI0 : InvB n I R ((w, K, ro), hc, hi, sv, pn, ch)) : Met l yX6_train (Cond.code yX6_train cX6_train 3 (some .int) :: GW) ({ frames := 6, cells := 0, slots := 0, locals := 216 } : Room) (qPre G n ad sz I L R [.ref (ad 71)]) (qI1 G (qA n ad sz) n ad R (fun z I1 L1 => RR n I L R (aTrain ((w, K, ro), hc, hi, sv, pn, ch)) z I1 L1)) 0 0 (qA n ad sz) := by
  refine q_met (by decide) (Nat.le_of_ble_eq_true rfl) ?_
  intro p_ e_ s m_ below meth c_ hC hr hlk0 hin hsz hW ls hl
  subst hsz
  have hC : CallFix p_ m_ c_ cX6_train 3 s ([.ref (ad 71)] : List Value).toArray GW "CoinRowsModel" := hC
  have hx := hC.1
  have hb := hC.2.1
  have hn : 83 ≤ n := hI0.1
  have hlk : LkOK n R := hI0.2.1
  have hN : NwI (I 72) w K ro := hI0.2.2.1
  have hH : HwB I hc hi := hI0.2.2.2.1
  have hSw : SwB I sv := hI0.2.2.2.2.1
  have hPd : PdB I pn ch := hI0.2.2.2.2.2
  have hh1 := hH.1
  have hh6 := hH.2.1
  have hp80 := hPd.2.1
  have hk6 : K ≤ 6 := hN.2.2.2.1
  have hw : Wok w := hN.2.2.2.2.1
  have hw3 : ∀ i, w i ≤ 3 := hw.1
  have hr4 : ∀ j, ro j < 4 := hN.2.2.2.2.2
  have hT63 : Sx' w K ro K 6 < 2 ^ 63 := Nat.lt_of_le_of_lt (Sx_b hw K K 6 hk6) (by decide)
  have hl : lv_has ls 3 [(0, .ref (ad 71))] := hl
  refine lv_aload_n hx hb dX6_train_0 rfl (lv_at hl 0 rfl) ?_
  refine g_6_0 (x := 71) (y := 72) hC hW (by omega) kd_71 gw_483 (hlk 71 0 72 (by omega) rfl) dX6_train_1 ?_
  refine q_bp 58 hx hb dX6_train_4 (by decide) ?_
  refine q_iald (x := 72) (i := 58) hC hW (by omega) kd_72 (by omega) dX6_train_6 ?_
  refine q_top (v2 := .int (nI (K))) (congrArg _ hN.2.1) ?_
  refine q_ieq (tgt := 19) hx hb dX6_train_7 (by decide) (by first | omega | exact Nat.lt_of_le_of_lt (hw3 _) (by decide)) (fun c_7 => ?_) (fun c_7 => ?_)
  ·
    refine lv_bipush (v := -5) hx hb dX6_train_19 (by decide) ?_
    exact q_iret1 hC hW hr hlk0 (RR_i (a' := (-5, ((w, K, ro), hc, hi, sv, pn, ch))) (by simp only [aTrain, if_pos (show K = 0 ∨ aTot (w, K, ro) = 0 from Or.inl c_7)]) ⟨rfl, PB_0 hI0⟩) dX6_train_21
  ·
    refine lv_aload_n hx hb dX6_train_10 rfl (lv_at hl 0 rfl) ?_
    refine q_kL1 (q_rV (As := []) (rest := []) (x := 71) hC hW mw_X6_totalNow gw_574 (k_totalNow l G n ad s.heap.size I L R w K ro hn hlk hN) (by omega) (ct_o6 kd_71) rfl ⟨rfl, rfl⟩ ⟨Nat.le_of_ble_eq_true rfl, Nat.le_of_ble_eq_true rfl⟩ ⟨(Nat.le_of_ble_eq_true rfl), (Nat.le_of_ble_eq_true rfl)⟩ hl.1 rfl rfl (Nat.le_of_ble_eq_true rfl) dX6_train_11) hW (fun r_11 I_11 L_11 H locs hp hW => ?_)
    obtain ⟨rfl, hB_11, hFr_11⟩ := hp
    have hN_11 : NwI (I_11 72) w K ro := by rw [hFr_11.1 72 (by decide)]; exact hN
    refine q_lc 0 hx hb dX6_train_14 (by decide) ?_
    refine q_lcmp hx hb dX6_train_15 ?_
    refine q_lne (tgt := 22) hx hb dX6_train_16 (by decide) hT63 (by decide) (fun c_16 => ?_) (fun c_16 => ?_)
    ·
      have hI11 : InvB n I_11 R ((w, K, ro), hc, hi, sv, pn, ch) := (PB_q hI0 (fun a ha => hFr_11.1 a (by omega)) (fun j _ => by rw [hFr_11.1 71 (by decide)]) (fun a ha => hFr_11.2 a (by omega) (by omega)) : PB n I L R ((w, K, ro), hc, hi, sv, pn, ch) I_11 L_11).1
      refine lv_aload_n hx hb dX6_train_22 rfl (lv_at hl 0 rfl) ?_
      refine q_kV1 (q_rV (As := []) (rest := []) (x := 71) hC hW mw_X6_record gw_546 (k_record l G n ad H.size I_11 L_11 R w K ro hc hi hn hlk hN_11 hI11.2.2.2.1) (by omega) (ct_o6 kd_71) rfl ⟨rfl, rfl⟩ ⟨Nat.le_of_ble_eq_true rfl, Nat.le_of_ble_eq_true rfl⟩ ⟨(Nat.le_of_ble_eq_true rfl), (Nat.le_of_ble_eq_true rfl)⟩ hl.1 rfl rfl (Nat.le_of_ble_eq_true rfl) dX6_train_23) hW (fun I_23 L_23 H locs hp hW => ?_)
      obtain ⟨hHr_23, hf_23, hj_23, rfl⟩ := hp
      have hN_23 : NwI (I_23 72) w K ro := by rw [hf_23 72 (by decide) (by decide)]; exact hN_11
      refine lv_aload_n hx hb dX6_train_26 rfl (lv_at hl 0 rfl) ?_
      refine q_kV1 (q_rV (As := []) (rest := []) (x := 71) hC hW mw_X6_layAhead gw_606 (k_layAh l G n ad H.size I_23 L_11 R w K ro hn hlk hN_23) (by omega) (ct_o6 kd_71) rfl ⟨rfl, rfl⟩ ⟨Nat.le_of_ble_eq_true rfl, Nat.le_of_ble_eq_true rfl⟩ ⟨(Nat.le_of_ble_eq_true rfl), (Nat.le_of_ble_eq_true rfl)⟩ hl.1 rfl rfl (Nat.le_of_ble_eq_true rfl) dX6_train_27) hW (fun I_27 L_27 H locs hp hW => ?_)
      obtain ⟨rfl, hAh_27, hAf_27⟩ := hp
      refine q_ic 0 hx hb dX6_train_30 (by decide) ?_
      refine lv_istore_n (lv' := [(1, .int (nI 0)), (0, .ref (ad 71))]) hx hb dX6_train_31 rfl hl (by decide) rfl (fun ls hl => ?_)
      have lp_32 : ∀ (fu_32 : Nat) (f : Nat) (L1 : Lc), 6 - f < fu_32 → (f ≤ 6) → (∀ j, j < 58 → (j < f ∨ (6 ≤ j ∧ j < 6 + 6 * f + 0) ∨ (42 ≤ j ∧ j < 42 + 4 * f + 0)) → L1 82 j = lN (rwt (exN w ro K) j)) → (∀ a, a ≠ 82 → L1 a = L_27 a) → ∀ (H : Heap) (locs : List Loc), Wd G n ad I_23 L1 R (qA n ad s.heap.size) s.heap H locs s → ∀ ls : Array Slot, lv_has ls 3 [(0, .ref (ad 71)), (1, .int (nI (f)))] → W p_ l e_ ({ frames := 6, cells := 0, slots := 0, locals := 216 } : Room) s m_ ([.ref (ad 71)] : List Value).toArray below meth c_ H locs 0 0 (MQ below (qI1 G (qA n ad s.heap.size) n ad R (fun z I1 L1 => RR n I L R (aTrain ((w, K, ro), hc, hi, sv, pn, ch)) z I1 L1)) ([.ref (ad 71)] : List Value).toArray s 0 0 (qA n ad s.heap.size)) (F0 m_ 32 ls []) := by
        intro fu_32
        induction fu_32 with
        | zero =>
          intro f L1 hm; exact absurd hm (Nat.not_lt_zero _)
        | succ fu_32 ih_32 =>
          intro f L1 hm_32 hf6 hE1 hFr1 H locs hW ls hl
          have hB1 : BhI w ro K I_23 L1 0 := Bh_g hB_11 (hf_23 79 (by decide) (by decide)) ((hFr1 78 (by decide)).trans (hAf_27 78 (by decide))) ((hFr1 80 (by decide)).trans (hAf_27 80 (by decide)))
          have hA1 : AhI w ro K L1 := Ah_g hAh_27 (hFr1 77 (by decide))
          refine lv_iload_n hx hb dX6_train_32 rfl (lv_at hl 1 rfl) ?_
          refine q_bp 6 hx hb dX6_train_33 (by decide) ?_
          refine q_cge (tgt := 130) hx hb dX6_train_35 (by decide) (by first | omega | exact Nat.lt_of_le_of_lt (hw3 _) (by decide)) (by first | omega | exact Nat.lt_of_le_of_lt (hw3 _) (by decide)) (fun c_35 => ?_) (fun c_35 => ?_)
          ·
            have e6 : f = 6 := by omega
            have hE : ∀ j, j < 58 → L1 82 j = lN (rwt (exN w ro K) j) := fun j h => hE1 j h (by omega)
            have hEb : ∀ j, rwt (exN w ro K) j ≤ 1317000000000000000 := rwt_B (exN_BB hw hk6)
            clear e6
            refine lv_aload_n hx hb dX6_train_130 rfl (lv_at hl 0 rfl) ?_
            refine q_ic 0 hx hb dX6_train_131 (by decide) ?_
            refine q_bp 6 hx hb dX6_train_132 (by decide) ?_
            have hW := (show I_23 = w7I I_23 (rwt w) from (w7I_self hN_23.1).symm) ▸ hW
            refine q_kI1 (q_rV (As := [.int (nI 0), .int (nI 6)]) (rest := []) (x := 71) hC hW mw_X6_trainGroup gw_700 (k_rgroup l G n ad H.size I_23 L1 R (rwt w) (rwt (exN w ro K)) _ _ hn hlk hE hEb (rwt_3 hw3) (by omega)) (by omega) (ct_o6 kd_71) rfl ⟨rfl, rfl⟩ ⟨Nat.le_of_ble_eq_true rfl, Nat.le_of_ble_eq_true rfl⟩ ⟨(Nat.le_of_ble_eq_true rfl), (Nat.le_of_ble_eq_true rfl)⟩ hl.1 rfl rfl (Nat.le_of_ble_eq_true rfl) dX6_train_134) hW (fun r_134 I_134 L_134 H locs hp hW => ?_)
            obtain ⟨rfl, rfl, rfl⟩ := hp
            rw [mT_b] at hW
            refine q_top (v2 := .int (nI (cR w (tnew (exN w ro K) w) 0))) (by rw [cnt_rw AB_b (fun _ _ => rfl), show cR w (tnew (exN w ro K) w) 0 = cntF w (tnew (exN w ro K) w) 36 6 from rfl]) ?_
            refine lv_istore_n (lv' := [(1, .int (nI (cR w (tnew (exN w ro K) w) 0))), (0, .ref (ad 71))]) hx hb dX6_train_137 rfl hl (by decide) rfl (fun ls hl => ?_)
            refine q_ic 0 hx hb dX6_train_138 (by decide) ?_
            refine lv_istore_n (lv' := [(2, .int (nI 0)), (1, .int (nI (cR w (tnew (exN w ro K) w) 0))), (0, .ref (ad 71))]) hx hb dX6_train_139 rfl hl (by decide) rfl (fun ls hl => ?_)
            have lp_140 : ∀ (fu_140 : Nat) (f : Nat), 6 - f < fu_140 → (f ≤ 6) → ∀ (H : Heap) (locs : List Loc), Wd G n ad (w7I I_23 (mT (exN w ro K) w f f)) L1 R (qA n ad s.heap.size) s.heap H locs s → ∀ ls : Array Slot, lv_has ls 3 [(0, .ref (ad 71)), (1, .int (nI (cR w (tnew (exN w ro K) w) f))), (2, .int (nI (f)))] → W p_ l e_ ({ frames := 6, cells := 0, slots := 0, locals := 216 } : Room) s m_ ([.ref (ad 71)] : List Value).toArray below meth c_ H locs 0 0 (MQ below (qI1 G (qA n ad s.heap.size) n ad R (fun z I1 L1 => RR n I L R (aTrain ((w, K, ro), hc, hi, sv, pn, ch)) z I1 L1)) ([.ref (ad 71)] : List Value).toArray s 0 0 (qA n ad s.heap.size)) (F0 m_ 140 ls []) := by
              intro fu_140
              induction fu_140 with
              | zero =>
                intro f hm; exact absurd hm (Nat.not_lt_zero _)
              | succ fu_140 ih_140 =>
                intro f hm_140 hf6 H locs hW ls hl
                have hcr := cR_le w (tnew (exN w ro K) w) f
                refine lv_iload_n hx hb dX6_train_140 rfl (lv_at hl 2 rfl) ?_
                refine q_bp 6 hx hb dX6_train_141 (by decide) ?_
                refine q_cge (tgt := 191) hx hb dX6_train_143 (by decide) (by first | omega | exact Nat.lt_of_le_of_lt (hw3 _) (by decide)) (by first | omega | exact Nat.lt_of_le_of_lt (hw3 _) (by decide)) (fun c_143 => ?_) (fun c_143 => ?_)
                ·
                  refine lv_iload_n hx hb dX6_train_191 rfl (lv_at hl 1 rfl) ?_
                  have e6 : f = 6 := by omega
                  subst e6
                  exact q_iret1 hC hW hr hlk0 (RR_i (a' := (nI (cntF w (tnew (exN w ro K) w) 0 58), ((mixA w (tnew (exN w ro K) w) 0 58, K, ro), hcN hc, hiN hc hi (w, K, ro), sv, pn, ch))) (by simp only [aTrain, if_neg (show ¬ (K = 0 ∨ aTot (w, K, ro) = 0) from fun h => h.elim c_7 c_16), remS]) ⟨congrArg nI (cR_6 w (tnew (exN w ro K) w)), PB_tr (PB_rec (m := (mixA w (tnew (exN w ro K) w) 0 58, K, ro)) hI11 hHr_23 hf_23 (congrFun (w7I_ne (by decide)) 2) (w7I_ne (by decide)) (w7I_ne (by decide)) (w7I_ne (by decide)) ⟨fun i hi => (w7I_at hi).trans (congrArg nI (mT_6 hi)), (w7I_hi (by decide)).trans hN_23.2.1, fun j hj => (w7I_hi (by omega)).trans (hN_23.2.2.1 j hj), hk6, train_ok hw K, hr4⟩ (PdB_fr hPd ((congrFun (w7I_ne (by decide)) 6).trans ((hj_23 6 (by decide)).trans (congrFun (hFr_11.1 71 (by decide)) 6))) ((w7I_ne (by decide)).trans ((hf_23 76 (by decide) (by decide)).trans (hFr_11.1 76 (by decide))))) (fun a ha => w7I_ne (by omega)) (fun a ha => (hFr1 a (by omega)).trans (hAf_27 a (by omega)))) (fun a ha => ⟨hFr_11.1 a (by omega), hFr_11.2 a (by omega) (by omega)⟩)⟩) dX6_train_192
                ·
                  refine lv_iload_n hx hb dX6_train_146 rfl (lv_at hl 1 rfl) ?_
                  refine lv_aload_n hx hb dX6_train_147 rfl (lv_at hl 0 rfl) ?_
                  refine q_bp 6 hx hb dX6_train_148 (by decide) ?_
                  refine q_bp 6 hx hb dX6_train_150 (by decide) ?_
                  refine lv_iload_n hx hb dX6_train_152 rfl (lv_at hl 2 rfl) ?_
                  refine q_imul hx hb dX6_train_153 ?_
                  refine q_iadd hx hb dX6_train_154 ?_
                  refine q_bp 6 hx hb dX6_train_155 (by decide) ?_
                  refine q_kI1 (q_rV (As := [.int (nI (6 + (6 * f))), .int (nI 6)]) (rest := [.int (nI (cR w (tnew (exN w ro K) w) f))]) (x := 71) hC hW mw_X6_trainGroup gw_700 (k_rgroup l G n ad H.size I_23 L1 R (mT (exN w ro K) w f f) (rwt (exN w ro K)) _ _ hn hlk hE hEb (mT_3 hw3 _ _) (by omega)) (by omega) (ct_o6 kd_71) rfl ⟨rfl, rfl⟩ ⟨Nat.le_of_ble_eq_true rfl, Nat.le_of_ble_eq_true rfl⟩ ⟨(Nat.le_of_ble_eq_true rfl), (Nat.le_of_ble_eq_true rfl)⟩ hl.1 rfl rfl (Nat.le_of_ble_eq_true rfl) dX6_train_157) hW (fun r_157 I_157 L_157 H locs hp hW => ?_)
                  obtain ⟨rfl, rfl, rfl⟩ := hp
                  rw [w7I_c (mT_s (show f < 6 by omega))] at hW
                  refine q_top (v2 := .int (nI (cntF w (tnew (exN w ro K) w) (f * 6) 6))) (by rw [mT_sc (show f < 6 by omega)]) ?_
                  refine q_iadd hx hb dX6_train_160 ?_
                  refine lv_istore_n (lv' := [(1, .int (nI ((cR w (tnew (exN w ro K) w) f) + (cntF w (tnew (exN w ro K) w) (f * 6) 6)))), (0, .ref (ad 71)), (2, .int (nI (f)))]) hx hb dX6_train_161 rfl hl (by decide) rfl (fun ls hl => ?_)
                  refine lv_iload_n hx hb dX6_train_162 rfl (lv_at hl 0 rfl) ?_
                  refine lv_iload_n hx hb dX6_train_163 rfl (lv_at hl 2 rfl) ?_
                  refine q_ic 4 hx hb dX6_train_164 (by decide) ?_
                  refine q_cge (tgt := 182) hx hb dX6_train_165 (by decide) (by first | omega | exact Nat.lt_of_le_of_lt (hw3 _) (by decide)) (by first | omega | exact Nat.lt_of_le_of_lt (hw3 _) (by decide)) (fun c_165 => ?_) (fun c_165 => ?_)
                  ·
                    refine q_ic 0 hx hb dX6_train_182 (by decide) ?_
                    refine q_iadd hx hb dX6_train_183 ?_
                    rw [w7I_c (mT_n (show 4 ≤ f by omega))] at hW
                    refine q_top (v2 := .int (nI (cR w (tnew (exN w ro K) w) (f + 1)))) (congrArg (fun z => Value.int (nI z)) (cR_n w (tnew (exN w ro K) w) (by omega))) ?_
                    refine lv_istore_n (lv' := [(1, .int (nI (cR w (tnew (exN w ro K) w) (f + 1)))), (0, .ref (ad 71)), (2, .int (nI (f)))]) hx hb dX6_train_184 rfl hl (by decide) rfl (fun ls hl => ?_)
                    refine q_iinc (z2 := f + 1) (lv' := [(2, .int (nI (f + 1))), (1, .int (nI (cR w (tnew (exN w ro K) w) (f + 1)))), (0, .ref (ad 71))]) hx hb dX6_train_185 hl (k := 2) rfl (inc_up _ 1 (by decide)) (by decide) rfl (fun ls hl => ?_)
                    refine lv_goto (tgt := 140) hx hb dX6_train_188 (by decide) ?_
                    exact ih_140 (f + 1) (by omega) (by omega) _ _ hW _ (lv_sub hl [2, 1, 0] rfl)
                  ·
                    refine lv_aload_n hx hb dX6_train_168 rfl (lv_at hl 1 rfl) ?_
                    refine q_bp 42 hx hb dX6_train_169 (by decide) ?_
                    refine q_ic 4 hx hb dX6_train_171 (by decide) ?_
                    refine lv_iload_n hx hb dX6_train_172 rfl (lv_at hl 2 rfl) ?_
                    refine q_imul hx hb dX6_train_173 ?_
                    refine q_iadd hx hb dX6_train_174 ?_
                    refine q_ic 4 hx hb dX6_train_175 (by decide) ?_
                    refine q_kI1 (q_rV (As := [.int (nI (42 + (4 * f))), .int (nI 4)]) (rest := [.int (nI ((cR w (tnew (exN w ro K) w) f) + (cntF w (tnew (exN w ro K) w) (f * 6) 6)))]) (x := 71) hC hW mw_X6_trainGroup gw_700 (k_rgroup l G n ad H.size I_23 L1 R (mT (exN w ro K) w (f + 1) f) (rwt (exN w ro K)) _ _ hn hlk hE hEb (mT_3 hw3 _ _) (by omega)) (by omega) (ct_o6 kd_71) rfl ⟨rfl, rfl⟩ ⟨Nat.le_of_ble_eq_true rfl, Nat.le_of_ble_eq_true rfl⟩ ⟨(Nat.le_of_ble_eq_true rfl), (Nat.le_of_ble_eq_true rfl)⟩ hl.1 rfl rfl (Nat.le_of_ble_eq_true rfl) dX6_train_176) hW (fun r_176 I_176 L_176 H locs hp hW => ?_)
                    obtain ⟨rfl, rfl, rfl⟩ := hp
                    rw [w7I_c (mT_l (show f < 4 by omega))] at hW
                    refine q_top (v2 := .int (nI (cntF w (tnew (exN w ro K) w) (42 + f * 4) 4))) (by rw [mT_lc (show f < 4 by omega)]) ?_
                    refine lv_goto (tgt := 183) hx hb dX6_train_179 (by decide) ?_
                    refine q_iadd hx hb dX6_train_183 ?_
                    refine q_top (v2 := .int (nI (cR w (tnew (exN w ro K) w) (f + 1)))) (congrArg (fun z => Value.int (nI z)) (cR_y w (tnew (exN w ro K) w) (by omega))) ?_
                    refine lv_istore_n (lv' := [(1, .int (nI (cR w (tnew (exN w ro K) w) (f + 1)))), (0, .ref (ad 71)), (2, .int (nI (f)))]) hx hb dX6_train_184 rfl hl (by decide) rfl (fun ls hl => ?_)
                    refine q_iinc (z2 := f + 1) (lv' := [(2, .int (nI (f + 1))), (1, .int (nI (cR w (tnew (exN w ro K) w) (f + 1)))), (0, .ref (ad 71))]) hx hb dX6_train_185 hl (k := 2) rfl (inc_up _ 1 (by decide)) (by decide) rfl (fun ls hl => ?_)
                    refine lv_goto (tgt := 140) hx hb dX6_train_188 (by decide) ?_
                    exact ih_140 (f + 1) (by omega) (by omega) _ _ hW _ (lv_sub hl [2, 1, 0] rfl)
            exact lp_140 (6 + 1) 0 (by omega) (by omega) _ _ hW _ (lv_sub hl [2, 1, 0] rfl)
          ·
            refine lv_aload_n hx hb dX6_train_38 rfl (lv_at hl 0 rfl) ?_
            refine g_6_14 (x := 71) (y := 82) hC hW (by omega) kd_71 gw_497 (hlk 71 14 82 (by omega) rfl) dX6_train_39 ?_
            refine lv_iload_n hx hb dX6_train_42 rfl (lv_at hl 1 rfl) ?_
            refine lv_aload_n hx hb dX6_train_43 rfl (lv_at hl 0 rfl) ?_
            refine q_ic 0 hx hb dX6_train_44 (by decide) ?_
            refine lv_iload_n hx hb dX6_train_45 rfl (lv_at hl 1 rfl) ?_
            refine q_ic 0 hx hb dX6_train_46 (by decide) ?_
            refine q_kL0 (q_rV (As := [.int (nI 0), .int (nI (f)), .int (nI 0)]) (rest := [.int (nI (f)), .ref (ad 82)]) (x := 71) hC hW mw_X6_numberOf gw_678 (k_num0 l G n ad H.size I_23 L1 R _ (by omega) w K ro hn hlk hN_23 hB1 hA1 (by omega)) (by omega) (ct_o6 kd_71) rfl ⟨rfl, rfl⟩ ⟨Nat.le_of_ble_eq_true rfl, Nat.le_of_ble_eq_true rfl⟩ ⟨(Nat.le_of_ble_eq_true rfl), (Nat.le_of_ble_eq_true rfl)⟩ hl.1 rfl rfl (Nat.le_of_ble_eq_true rfl) dX6_train_47) hW (fun r_47 H locs hp hW => ?_)
            subst hp
            refine q_last (x := 82) (i := f) (v := lN (stN w ro K 6 f K)) hC hW (by omega) kd_82 (by omega) dX6_train_50 (fun H locs hW => ?_)
            refine q_ic 0 hx hb dX6_train_51 (by decide) ?_
            refine lv_istore_n (lv' := [(2, .int (nI 0)), (0, .ref (ad 71)), (1, .int (nI (f)))]) hx hb dX6_train_52 rfl hl (by decide) rfl (fun ls hl => ?_)
            have lp_53 : ∀ (fu_53 : Nat) (t : Nat) (L2 : Lc), 6 - t < fu_53 → (t ≤ 6) → (∀ j, j < 58 → (j < f + 1 ∨ (6 ≤ j ∧ j < 6 + 6 * f + t) ∨ (42 ≤ j ∧ j < 42 + 4 * f + 0)) → L2 82 j = lN (rwt (exN w ro K) j)) → (∀ a, a ≠ 82 → L2 a = L_27 a) → ∀ (H : Heap) (locs : List Loc), Wd G n ad I_23 L2 R (qA n ad s.heap.size) s.heap H locs s → ∀ ls : Array Slot, lv_has ls 3 [(0, .ref (ad 71)), (1, .int (nI (f))), (2, .int (nI (t)))] → W p_ l e_ ({ frames := 6, cells := 0, slots := 0, locals := 216 } : Room) s m_ ([.ref (ad 71)] : List Value).toArray below meth c_ H locs 0 0 (MQ below (qI1 G (qA n ad s.heap.size) n ad R (fun z I1 L1 => RR n I L R (aTrain ((w, K, ro), hc, hi, sv, pn, ch)) z I1 L1)) ([.ref (ad 71)] : List Value).toArray s 0 0 (qA n ad s.heap.size)) (F0 m_ 53 ls []) := by
              intro fu_53
              induction fu_53 with
              | zero =>
                intro t L2 hm; exact absurd hm (Nat.not_lt_zero _)
              | succ fu_53 ih_53 =>
                intro t L2 hm_53 ht6 hE2 hFr2 H locs hW ls hl
                have hB2 : BhI w ro K I_23 L2 0 := Bh_g hB_11 (hf_23 79 (by decide) (by decide)) ((hFr2 78 (by decide)).trans (hAf_27 78 (by decide))) ((hFr2 80 (by decide)).trans (hAf_27 80 (by decide)))
                have hA2 : AhI w ro K L2 := Ah_g hAh_27 (hFr2 77 (by decide))
                refine lv_iload_n hx hb dX6_train_53 rfl (lv_at hl 2 rfl) ?_
                refine q_bp 6 hx hb dX6_train_54 (by decide) ?_
                refine q_cge (tgt := 86) hx hb dX6_train_56 (by decide) (by first | omega | exact Nat.lt_of_le_of_lt (hw3 _) (by decide)) (by first | omega | exact Nat.lt_of_le_of_lt (hw3 _) (by decide)) (fun c_56 => ?_) (fun c_56 => ?_)
                ·
                  refine q_ic 0 hx hb dX6_train_86 (by decide) ?_
                  refine lv_istore_n (lv' := [(2, .int (nI 0)), (0, .ref (ad 71)), (1, .int (nI (f)))]) hx hb dX6_train_87 rfl hl (by decide) rfl (fun ls hl => ?_)
                  have lp_88 : ∀ (fu_88 : Nat) (t : Nat) (L3 : Lc), 4 - t < fu_88 → (t ≤ 4) → (∀ j, j < 58 → (j < f + 1 ∨ (6 ≤ j ∧ j < 6 + 6 * f + 6) ∨ (42 ≤ j ∧ j < 42 + 4 * f + t)) → L3 82 j = lN (rwt (exN w ro K) j)) → (∀ a, a ≠ 82 → L3 a = L_27 a) → ∀ (H : Heap) (locs : List Loc), Wd G n ad I_23 L3 R (qA n ad s.heap.size) s.heap H locs s → ∀ ls : Array Slot, lv_has ls 3 [(0, .ref (ad 71)), (1, .int (nI (f))), (2, .int (nI (t)))] → W p_ l e_ ({ frames := 6, cells := 0, slots := 0, locals := 216 } : Room) s m_ ([.ref (ad 71)] : List Value).toArray below meth c_ H locs 0 0 (MQ below (qI1 G (qA n ad s.heap.size) n ad R (fun z I1 L1 => RR n I L R (aTrain ((w, K, ro), hc, hi, sv, pn, ch)) z I1 L1)) ([.ref (ad 71)] : List Value).toArray s 0 0 (qA n ad s.heap.size)) (F0 m_ 88 ls []) := by
                    intro fu_88
                    induction fu_88 with
                    | zero =>
                      intro t L3 hm; exact absurd hm (Nat.not_lt_zero _)
                    | succ fu_88 ih_88 =>
                      intro t L3 hm_88 ht4 hE3 hFr3 H locs hW ls hl
                      have hB3 : BhI w ro K I_23 L3 0 := Bh_g hB_11 (hf_23 79 (by decide) (by decide)) ((hFr3 78 (by decide)).trans (hAf_27 78 (by decide))) ((hFr3 80 (by decide)).trans (hAf_27 80 (by decide)))
                      have hA3 : AhI w ro K L3 := Ah_g hAh_27 (hFr3 77 (by decide))
                      refine lv_iload_n hx hb dX6_train_88 rfl (lv_at hl 2 rfl) ?_
                      refine q_ic 4 hx hb dX6_train_89 (by decide) ?_
                      refine q_cge (tgt := 124) hx hb dX6_train_90 (by decide) (by first | omega | exact Nat.lt_of_le_of_lt (hw3 _) (by decide)) (by first | omega | exact Nat.lt_of_le_of_lt (hw3 _) (by decide)) (fun c_90 => ?_) (fun c_90 => ?_)
                      ·
                        refine q_iinc (z2 := f + 1) (lv' := [(1, .int (nI (f + 1))), (0, .ref (ad 71)), (2, .int (nI (t)))]) hx hb dX6_train_124 hl (k := 1) rfl (inc_up _ 1 (by decide)) (by decide) rfl (fun ls hl => ?_)
                        refine lv_goto (tgt := 32) hx hb dX6_train_127 (by decide) ?_
                        exact ih_32 (f + 1) L3 (by omega) (by omega) (fun j h1 h2 => hE3 j h1 (by omega)) hFr3 _ _ hW _ (lv_sub hl [1, 0] rfl)
                      ·
                        refine lv_iload_n hx hb dX6_train_93 rfl (lv_at hl 1 rfl) ?_
                        refine q_ic 4 hx hb dX6_train_94 (by decide) ?_
                        refine q_cge (tgt := 124) hx hb dX6_train_95 (by decide) (by first | omega | exact Nat.lt_of_le_of_lt (hw3 _) (by decide)) (by first | omega | exact Nat.lt_of_le_of_lt (hw3 _) (by decide)) (fun c_95 => ?_) (fun c_95 => ?_)
                        ·
                          refine q_iinc (z2 := f + 1) (lv' := [(1, .int (nI (f + 1))), (0, .ref (ad 71)), (2, .int (nI (t)))]) hx hb dX6_train_124 hl (k := 1) rfl (inc_up _ 1 (by decide)) (by decide) rfl (fun ls hl => ?_)
                          refine lv_goto (tgt := 32) hx hb dX6_train_127 (by decide) ?_
                          exact ih_32 (f + 1) L3 (by omega) (by omega) (fun j h1 h2 => hE3 j h1 (by omega)) hFr3 _ _ hW _ (lv_sub hl [1, 0] rfl)
                        ·
                          refine lv_aload_n hx hb dX6_train_98 rfl (lv_at hl 0 rfl) ?_
                          refine g_6_14 (x := 71) (y := 82) hC hW (by omega) kd_71 gw_497 (hlk 71 14 82 (by omega) rfl) dX6_train_99 ?_
                          refine q_bp 42 hx hb dX6_train_102 (by decide) ?_
                          refine q_ic 4 hx hb dX6_train_104 (by decide) ?_
                          refine lv_iload_n hx hb dX6_train_105 rfl (lv_at hl 1 rfl) ?_
                          refine q_imul hx hb dX6_train_106 ?_
                          refine q_iadd hx hb dX6_train_107 ?_
                          refine lv_iload_n hx hb dX6_train_108 rfl (lv_at hl 2 rfl) ?_
                          refine q_iadd hx hb dX6_train_109 ?_
                          refine lv_aload_n hx hb dX6_train_110 rfl (lv_at hl 0 rfl) ?_
                          refine q_ic 2 hx hb dX6_train_111 (by decide) ?_
                          refine lv_iload_n hx hb dX6_train_112 rfl (lv_at hl 1 rfl) ?_
                          refine lv_iload_n hx hb dX6_train_113 rfl (lv_at hl 2 rfl) ?_
                          refine q_kL0 (q_rV (As := [.int (nI 2), .int (nI (f)), .int (nI (t))]) (rest := [.int (nI ((42 + (4 * f)) + t)), .ref (ad 82)]) (x := 71) hC hW mw_X6_numberOf gw_678 (k_num2 l G n ad H.size I_23 L3 R _ _ (by omega) (by omega) w K ro hn hlk hN_23 hB3 hA3 (by omega)) (by omega) (ct_o6 kd_71) rfl ⟨rfl, rfl⟩ ⟨Nat.le_of_ble_eq_true rfl, Nat.le_of_ble_eq_true rfl⟩ ⟨(Nat.le_of_ble_eq_true rfl), (Nat.le_of_ble_eq_true rfl)⟩ hl.1 rfl rfl (Nat.le_of_ble_eq_true rfl) dX6_train_114) hW (fun r_114 H locs hp hW => ?_)
                          subst hp
                          refine q_last (x := 82) (i := (42 + (4 * f)) + t) (v := lN (leN w ro K f t K)) hC hW (by omega) kd_82 (by omega) dX6_train_117 (fun H locs hW => ?_)
                          refine q_iinc (z2 := t + 1) (lv' := [(2, .int (nI (t + 1))), (0, .ref (ad 71)), (1, .int (nI (f)))]) hx hb dX6_train_118 hl (k := 2) rfl (inc_up _ 1 (by decide)) (by decide) rfl (fun ls hl => ?_)
                          refine lv_goto (tgt := 88) hx hb dX6_train_121 (by decide) ?_
                          exact ih_88 (t + 1) (up2 L3 82 ((42 + (4 * f)) + t) (lN (leN w ro K f t K))) (by omega) (by omega) (fun j h1 h2 => by rw [up2_at]; by_cases e9 : j = 42 + 4 * f + t; (rw [if_pos ⟨rfl, e9⟩, e9, rE_l w ro K (by omega) (by omega)]); rw [if_neg (fun q9 => e9 q9.2)]; exact hE3 j h1 (by omega)) (fun a ha => by rw [up2_ne ha]; exact hFr3 a ha) _ _ hW _ (lv_sub hl [1, 2, 0] rfl)
                  exact lp_88 (4 + 1) 0 L2 (by omega) (by omega) (fun j h1 h2 => hE2 j h1 (by omega)) hFr2 _ _ hW _ (lv_sub hl [1, 2, 0] rfl)
                ·
                  refine lv_aload_n hx hb dX6_train_59 rfl (lv_at hl 0 rfl) ?_
                  refine g_6_14 (x := 71) (y := 82) hC hW (by omega) kd_71 gw_497 (hlk 71 14 82 (by omega) rfl) dX6_train_60 ?_
                  refine q_bp 6 hx hb dX6_train_63 (by decide) ?_
                  refine q_bp 6 hx hb dX6_train_65 (by decide) ?_
                  refine lv_iload_n hx hb dX6_train_67 rfl (lv_at hl 1 rfl) ?_
                  refine q_imul hx hb dX6_train_68 ?_
                  refine q_iadd hx hb dX6_train_69 ?_
                  refine lv_iload_n hx hb dX6_train_70 rfl (lv_at hl 2 rfl) ?_
                  refine q_iadd hx hb dX6_train_71 ?_
                  refine lv_aload_n hx hb dX6_train_72 rfl (lv_at hl 0 rfl) ?_
                  refine q_ic 1 hx hb dX6_train_73 (by decide) ?_
                  refine lv_iload_n hx hb dX6_train_74 rfl (lv_at hl 1 rfl) ?_
                  refine lv_iload_n hx hb dX6_train_75 rfl (lv_at hl 2 rfl) ?_
                  refine q_kL0 (q_rV (As := [.int (nI 1), .int (nI (f)), .int (nI (t))]) (rest := [.int (nI ((6 + (6 * f)) + t)), .ref (ad 82)]) (x := 71) hC hW mw_X6_numberOf gw_678 (k_num1 l G n ad H.size I_23 L2 R _ _ (by omega) (by omega) w K ro hn hlk hN_23 hB2 hA2 (by omega)) (by omega) (ct_o6 kd_71) rfl ⟨rfl, rfl⟩ ⟨Nat.le_of_ble_eq_true rfl, Nat.le_of_ble_eq_true rfl⟩ ⟨(Nat.le_of_ble_eq_true rfl), (Nat.le_of_ble_eq_true rfl)⟩ hl.1 rfl rfl (Nat.le_of_ble_eq_true rfl) dX6_train_76) hW (fun r_76 H locs hp hW => ?_)
                  subst hp
                  refine q_last (x := 82) (i := (6 + (6 * f)) + t) (v := lN (stN w ro K f t K)) hC hW (by omega) kd_82 (by omega) dX6_train_79 (fun H locs hW => ?_)
                  refine q_iinc (z2 := t + 1) (lv' := [(2, .int (nI (t + 1))), (0, .ref (ad 71)), (1, .int (nI (f)))]) hx hb dX6_train_80 hl (k := 2) rfl (inc_up _ 1 (by decide)) (by decide) rfl (fun ls hl => ?_)
                  refine lv_goto (tgt := 53) hx hb dX6_train_83 (by decide) ?_
                  exact ih_53 (t + 1) (up2 L2 82 ((6 + (6 * f)) + t) (lN (stN w ro K f t K))) (by omega) (by omega) (fun j h1 h2 => by rw [up2_at]; by_cases e9 : j = 6 + 6 * f + t; (rw [if_pos ⟨rfl, e9⟩, e9, rE_s w ro K (by omega) (by omega)]); rw [if_neg (fun q9 => e9 q9.2)]; exact hE2 j h1 (by omega)) (fun a ha => by rw [up2_ne ha]; exact hFr2 a ha) _ _ hW _ (lv_sub hl [1, 2, 0] rfl)
            exact lp_53 (6 + 1) 0 (up2 L1 82 f (lN (stN w ro K 6 f K))) (by omega) (by omega) (fun j h1 h2 => by rw [up2_at]; by_cases e9 : j = f; (rw [if_pos ⟨rfl, e9⟩, e9, rE_b w ro K (by omega)]); rw [if_neg (fun q9 => e9 q9.2)]; exact hE1 j h1 (by omega)) (fun a ha => by rw [up2_ne ha]; exact hFr1 a ha) _ _ hW _ (lv_sub hl [1, 2, 0] rfl)
      exact lp_32 (6 + 1) 0 L_27 (by omega) (by omega) (fun j _ h => absurd h (by omega)) (fun _ _ => rfl) _ _ hW _ (lv_sub hl [1, 0] rfl)
    ·
      refine lv_bipush (v := -5) hx hb dX6_train_19 (by decide) ?_
      exact q_iret1 hC hW hr hlk0 (RR_i (a' := (-5, ((w, K, ro), hc, hi, sv, pn, ch))) (by simp only [aTrain, if_pos (show K = 0 ∨ aTot (w, K, ro) = 0 from Or.inr c_16)]) ⟨rfl, PB_q hI0 (fun a ha => hFr_11.1 a (by omega)) (fun j _ => by rw [hFr_11.1 71 (by decide)]) (fun a ha => hFr_11.2 a (by omega) (by omega))⟩) dX6_train_21
