def upd1 (ad : Nat → Nat) (n q : Nat) : Nat → Nat := fun k => if k = n then q else ad k
theorem upd1_at (ad : Nat → Nat) (n q : Nat) : upd1 ad n q n = q := if_pos rfl
theorem upd1_lt {ad : Nat → Nat} {n q k : Nat} (h : k < n) : upd1 ad n q k = ad k := if_neg (by omega)
theorem ctk_ad {G : Gx} {ad ad' : Nat → Nat} {i : Nat → Int32} {l : Nat → Int64} {r : Nat → Option Nat} (h : ∀ j, (r j).map ad' = (r j).map ad) (q : Nat × Nat) : ctk G ad' i l r q = ctk G ad i l r q := by
  have h2 : ∀ j, rfv ad' (r j) = rfv ad (r j) := fun j => by unfold rfv; rw [h j]
  have hf : ∀ c, flds ad' i l r c = flds ad i l r c := fun c => by
    unfold flds
    split <;> simp only [h2]
  have h3 : (fun j => (r j).map ad') = (fun j => (r j).map ad) := funext h
  unfold ctk
  split <;> first | rfl | rw [h3] | rw [hf]
theorem wl_app {G : Gx} {n : Nat} {ad ad' : Nat → Nat} {I I' : Ic} {L L' : Lc} {R R' : Rc} {e : va_E} (hcl : Cl n R) (had : ∀ k, k < n → ad' k = ad k) (hI : ∀ k, k < n → I' k = I k) (hL : ∀ k, k < n → L' k = L k) (hR : ∀ k, k < n → R' k = R k) (he : ct G ad' I' L' R' n = e) : wl G n ad I L R ++ [(ad' n, e)] = wl G (n + 1) ad' I' L' R' := by
  unfold wl
  rw [List.range_succ, List.map_append]
  congr 1
  · apply List.map_congr_left
    intro k hk
    have hk := List.mem_range.mp hk
    rw [had k hk]
    unfold ct
    rw [hI k hk, hL k hk, hR k hk, ctk_ad (ad := ad) (ad' := ad')]
    intro j
    cases e2 : R k j with
    | none => rfl
    | some y => exact congrArg some (had y (hcl k j y hk e2))
  · rw [← he]; rfl
theorem Cl_z {n : Nat} {R : Rc} (h : Cl n R) : Cl (n + 1) (zr R n none) := fun k j y hk hy => by
  rw [zr_at] at hy
  by_cases e : k = n
  · rw [if_pos e] at hy; cases hy
  · rw [if_neg e] at hy
    have := h k j y (by omega) hy
    omega
theorem Cl_p {n : Nat} {R : Rc} {a i b : Nat} (h : Cl n R) (hb : b < n) : Cl n (up2 R a i (some b)) := fun k j y hk hy => by
  rw [up2_at] at hy
  by_cases e : k = a ∧ j = i
  · rw [if_pos e] at hy; cases hy; exact hb
  · rw [if_neg e] at hy; exact h k j y hk hy
theorem cA_eq {s : State} {D : va_G} {cl : List vw_C} {t1 t2 : List (ClassId × FieldType)} {i j : Nat} {a b : ClassId} {ty : FieldType} (h1 : va_K D cl t1 s) (h2 : va_K D cl t2 s) (e1 : t1[i]? = some (a, ty)) (e2 : t2[j]? = some (b, ty)) : a = b := by
  have x1 := (h1.2 i _ e1).2
  have x2 := (h2.2 j _ e2).2
  cases ty <;> first | exact Option.some.inj (Eq.trans (Eq.symm x1) x2) | (obtain ⟨_, _, -, -, -, y1⟩ := x1; obtain ⟨_, _, -, -, -, y2⟩ := x2; exact Option.some.inj (y1.symm.trans y2))
theorem by8 {len : Nat} {ty : FieldType} (h : len < 1000) (hc : componentBytes ty ≤ 8) : len * componentBytes ty ≤ 536870912 := Nat.le_trans (Nat.mul_le_mul (Nat.le_of_lt h) hc) (by decide)
def zz {α : Type} (n c : Nat) (f : Nat → Nat → α) (z : α) : Nat → Nat → α := fun b => if n ≤ b ∧ b < n + c then (fun _ => z) else f b
def mmR (n : Nat) (R : Rc) : Rc := fun b => if b = n then (fun j => if j < 7 then some (n + 1 + j) else none) else if n < b ∧ b < n + 8 then (fun _ => none) else R b
def ad8 (ad : Nat → Nat) (n h : Nat) : Nat → Nat := fun k => if k < n then ad k else h + (k - n)
theorem ad8_lt {ad : Nat → Nat} {n h k : Nat} (hk : k < n) : ad8 ad n h k = ad k := if_pos hk
theorem ad8_ge {ad : Nat → Nat} {n h k : Nat} (hk : n ≤ k) : ad8 ad n h k = h + (k - n) := if_neg (by omega)
theorem ad8_n (ad : Nat → Nat) (n h : Nat) : ad8 ad n h n = h := by rw [ad8_ge (Nat.le_refl n), Nat.sub_self, Nat.add_zero]
theorem zz_lt {α : Type} {n c : Nat} {f : Nat → Nat → α} {z : α} {b : Nat} (h : b < n ∨ n + c ≤ b) : zz n c f z b = f b := if_neg (by omega)
theorem zz_in {α : Type} {n c : Nat} {f : Nat → Nat → α} {z : α} {b : Nat} (h : n ≤ b) (h2 : b < n + c) : zz n c f z b = fun _ => z := if_pos ⟨h, h2⟩
theorem mmR_lt {n : Nat} {R : Rc} {b : Nat} (h : b < n ∨ n + 8 ≤ b) : mmR n R b = R b := by unfold mmR; rw [if_neg (by omega), if_neg (by omega)]
theorem mmR_n (n : Nat) (R : Rc) : mmR n R n = fun j => if j < 7 then some (n + 1 + j) else none := if_pos rfl
theorem mmR_in {n : Nat} {R : Rc} {b : Nat} (h : n < b) (h2 : b < n + 8) : mmR n R b = fun _ => none := by unfold mmR; rw [if_neg (by omega), if_pos ⟨h, h2⟩]
theorem mmR_Cl {n : Nat} {R : Rc} (h : Cl n R) : Cl (n + 8) (mmR n R) := fun k j y hk hy => by
  by_cases e : k < n
  · rw [mmR_lt (Or.inl e)] at hy
    have := h k j y e hy
    omega
  · by_cases e2 : k = n
    · rw [e2, mmR_n] at hy
      have hy : (if j < 7 then some (n + 1 + j) else none) = some y := hy
      by_cases ej : j < 7
      · rw [if_pos ej] at hy; cases hy; omega
      · rw [if_neg ej] at hy; cases hy
    · rw [mmR_in (by omega) hk] at hy; cases hy
theorem mm_P {G : Gx} {n : Nat} {ad : Nat → Nat} {I : Ic} {L : Lc} {R : Rc} {H H1 : Heap} {co cdi M : Nat} {dv : Value} (hcl : Cl n R) (hk : kd n = (co, 7)) (hk2 : ∀ j, j < 7 → kd (n + 1 + j) = (cdi, M)) (hP : va_P G.1 vwCl (wl G n ad I L R) H) (fo : ∀ a, a < H.size → H1[a]? = H[a]?) (f2 : H1[H.size]? = some (Jvm.Free.Multi.outerC (G.2 co) 7 H.size 7)) (fi : ∀ j, j < 7 → H1[H.size + 1 + j]? = some (Jvm.Free.Multi.innerC (G.2 cdi) M dv))
    (ho : ∀ (f : Nat → Nat) (i : Nat → Int32) (l : Nat → Int64), ctk G f i l (fun j => if j < 7 then some (n + 1 + j) else none) (co, 7) = .inl (G.2 co, 7, .inr (.inr (.inr (.inr (fun j => (if j < 7 then some (n + 1 + j) else none : Option Nat).map f)))))) (hi : ∀ (f : Nat → Nat) (k : Nat), va_at G.1 vwCl (k, ctk G f (fun _ => 0) (fun _ => 0) (fun _ => none) (cdi, M)) H1 = (H1[k]? = some (arrV (G.2 cdi) M (fun _ => dv)))) : va_P G.1 vwCl (wl G (n + 8) (ad8 ad n H.size) (zz n 8 I 0) (zz n 8 L 0) (mmR n R)) H1 := by
  have hP1 : va_P G.1 vwCl (wl G n ad I L R) H1 := hP.kept (fun k x hx => fo x.1 ((hP k x hx).lt))
  intro k q hq
  obtain ⟨hkn, rfl⟩ := wl_some hq
  by_cases e : k < n
  · have h0 := hP1 k _ (wl_at e)
    rw [ad8_lt e]
    have : ct G (ad8 ad n H.size) (zz n 8 I 0) (zz n 8 L 0) (mmR n R) k = ct G ad I L R k := by
      unfold ct
      rw [zz_lt (Or.inl e), zz_lt (Or.inl e), mmR_lt (Or.inl e), ctk_ad (ad := ad)]
      intro j
      cases e2 : R k j with
      | none => rfl
      | some y => exact congrArg some (ad8_lt (hcl k j y e e2))
    rw [this]; exact h0
  · by_cases e2 : k = n
    · subst e2
      unfold ct
      rw [zz_in (Nat.le_refl k) (by omega), zz_in (Nat.le_refl k) (by omega), mmR_n, hk, ho, ad8_n]
      show H1[H.size]? = some (arrV (G.2 co) 7 (fun j => va_rf ((if j < 7 then some (k + 1 + j) else none : Option Nat).map (ad8 ad k H.size))))
      rw [f2]
      have e3 : ∀ j, j < 7 → ad8 ad k H.size (k + 1 + j) = H.size + 1 + j := fun j hj => by rw [ad8_ge (by omega)]; omega
      congr 1
      have o1 := Jvm.Free.Multi.outerC_facts (G.2 co) 7 H.size 7
      have key : Jvm.Free.Multi.outerC (G.2 co) 7 H.size 7 = arrV (G.2 co) 7 (fun j => va_rf (if j < 7 then some (H.size + 1 + j) else none)) := rfl
      rw [key]
      congr 1
      funext j
      by_cases ej : j < 7
      · rw [if_pos ej, if_pos ej]
        show va_rf (some (H.size + 1 + j)) = va_rf (some (ad8 ad k H.size (k + 1 + j)))
        rw [e3 j ej]
      · rw [if_neg ej, if_neg ej]; rfl
    · obtain ⟨j, rfl⟩ : ∃ j, k = n + 1 + j := ⟨k - n - 1, by omega⟩
      unfold ct
      rw [zz_in (by omega) (by omega), zz_in (by omega) (by omega), mmR_in (by omega) (by omega), hk2 j (by omega), ad8_ge (by omega), show H.size + (n + 1 + j - n) = H.size + 1 + j by omega, hi, fi j (by omega)]
      unfold Jvm.Free.Multi.innerC
      rw [← arrV_new]
theorem mm_D {G : Gx} {n : Nat} {ad : Nat → Nat} {I I' : Ic} {L L' : Lc} {R R' : Rc} {A : Nat → Prop} {H : Heap} (hD : va_D A (wl G n ad I L R)) (hP : va_P G.1 vwCl (wl G n ad I L R) H) (hA : ∀ q, H.size ≤ q → A q) : va_D A (wl G (n + 8) (ad8 ad n H.size) I' L' R') := by
  have lt : ∀ k, k < n → ad k < H.size := fun k hk => (hP k _ (wl_at hk)).lt
  refine ⟨fun i j p q hp hq hpq => ?_, fun k q hq => ?_⟩
  · obtain ⟨hi, rfl⟩ := wl_some hp
    obtain ⟨hj, rfl⟩ := wl_some hq
    have hpq : ad8 ad n H.size i = ad8 ad n H.size j := hpq
    by_cases ei : i < n
    · by_cases ej : j < n
      · rw [ad8_lt ei, ad8_lt ej] at hpq
        exact hD.1 i j _ _ (wl_at ei) (wl_at ej) hpq
      · rw [ad8_lt ei, ad8_ge (by omega)] at hpq
        have := lt i ei
        omega
    · by_cases ej : j < n
      · rw [ad8_ge (by omega), ad8_lt ej] at hpq
        have := lt j ej
        omega
      · rw [ad8_ge (by omega), ad8_ge (by omega)] at hpq
        omega
  · obtain ⟨hk, rfl⟩ := wl_some hq
    show A (ad8 ad n H.size k)
    by_cases ek : k < n
    · rw [ad8_lt ek]; exact hD.2 k _ (wl_at ek)
    · rw [ad8_ge (by omega)]; exact hA _ (by omega)
section QAL
variable {p : Program} {l : Launch} {e : Env} {Rm : Room} {s : State} {m : MethodId} {args : Array Value} {below : List Frame} {meth : Method} {c : Code} {H : Heap} {locs : List Loc} {cells slots : Nat} {Q : State → Prop} {cc : ByteArray} {pc : Nat} {ls : Array Slot} {rest st0 : List Value} {A : Nat → Prop} {H0 : Heap} {nL : Nat} {own : String} {G : Gx} {n : Nat} {ad : Nat → Nat} {I : Ic} {L : Lc} {R : Rc}
theorem q_nwi {len : Nat} (hC : CallFix p m c cc nL s args GW own) (hW : Wd G n ad I L R A H0 H locs s) (hcl : Cl n R) (hk : kd n = (0, len)) (hcells : cells + 1 ≤ Rm.cells) (hslots : slots + len ≤ Rm.slots) (hdg : decode cc pc = .ok (.newarray .int, 2)) (kk : ∀ (ad1 : Nat → Nat) (H1 : Heap), (∀ k, k < n → ad1 k = ad k) → Cl (n + 1) (zr R n none) → Wd G (n + 1) ad1 (zr I n 0) (zr L n 0) (zr R n none) A H0 H1 locs s → W p l e Rm s m args below meth c H1 locs (cells + 1) (slots + len) Q (F0 m (pc + 2) ls (.ref (ad1 n) :: rest))) : W p l e Rm s m args below meth c H locs cells slots Q (F0 m pc ls (.int (nI len) :: rest)) := by
  have hl1 : len < 1000 := kd_len hk
  refine va_newa (atype := .int) hC.1 hC.2.1 (hC.2.2.2.2 _ gw_40) (ty := .int) rfl hW.2.1 hW.1 hW.2.2.1 hW.2.2.2.1 hW.2.2.2.2.1 (N' := len) (a0 := (len, .inl (fun _ => 0))) (fun _ => rfl) (nI_pos (by omega)) (nI_clamp (by omega)) (by8 hl1 (by decide)) hcells hslots hdg (fun q cA H1 h1 h2 h3 h4 => ?_)
  have ec : cA = G.2 0 := cA_eq h1 hW.2.1 (i := 7) (j := 0) rfl rfl
  subst ec
  rw [← upd1_at ad n q] at h2 h3
  rw [wl_app (ad' := upd1 ad n q) (I' := zr I n 0) (L' := zr L n 0) (R' := zr R n none) hcl (fun k hk => upd1_lt hk) (fun k hk => zr_ne (by omega)) (fun k hk => zr_ne (by omega)) (fun k hk => zr_ne (by omega)) (by unfold ct; rw [zr_eq, zr_eq, zr_eq, hk]; rfl)] at h2 h3
  have k2 := kk (upd1 ad n q) H1 (fun k hk => upd1_lt hk) (Cl_z hcl) ⟨h2, hW.2.1, h3, h4, hW.2.2.2.2⟩
  rw [upd1_at] at k2
  exact k2
theorem q_nwl {len : Nat} (hC : CallFix p m c cc nL s args GW own) (hW : Wd G n ad I L R A H0 H locs s) (hcl : Cl n R) (hk : kd n = (1, len)) (hcells : cells + 1 ≤ Rm.cells) (hslots : slots + len ≤ Rm.slots) (hdg : decode cc pc = .ok (.newarray .long, 2)) (kk : ∀ (ad1 : Nat → Nat) (H1 : Heap), (∀ k, k < n → ad1 k = ad k) → Cl (n + 1) (zr R n none) → Wd G (n + 1) ad1 (zr I n 0) (zr L n 0) (zr R n none) A H0 H1 locs s → W p l e Rm s m args below meth c H1 locs (cells + 1) (slots + len) Q (F0 m (pc + 2) ls (.ref (ad1 n) :: rest))) : W p l e Rm s m args below meth c H locs cells slots Q (F0 m pc ls (.int (nI len) :: rest)) := by
  have hl1 : len < 1000 := kd_len hk
  refine va_newa (atype := .long) hC.1 hC.2.1 (hC.2.2.2.2 _ gw_93) (ty := .long) rfl hW.2.1 hW.1 hW.2.2.1 hW.2.2.2.1 hW.2.2.2.2.1 (N' := len) (a0 := (len, .inr (.inl (fun _ => 0)))) (fun _ => rfl) (nI_pos (by omega)) (nI_clamp (by omega)) (by8 hl1 (by decide)) hcells hslots hdg (fun q cA H1 h1 h2 h3 h4 => ?_)
  have ec : cA = G.2 1 := cA_eq h1 hW.2.1 (i := 7) (j := 1) rfl rfl
  subst ec
  rw [← upd1_at ad n q] at h2 h3
  rw [wl_app (ad' := upd1 ad n q) (I' := zr I n 0) (L' := zr L n 0) (R' := zr R n none) hcl (fun k hk => upd1_lt hk) (fun k hk => zr_ne (by omega)) (fun k hk => zr_ne (by omega)) (fun k hk => zr_ne (by omega)) (by unfold ct; rw [zr_eq, zr_eq, zr_eq, hk]; rfl)] at h2 h3
  have k2 := kk (upd1 ad n q) H1 (fun k hk => upd1_lt hk) (Cl_z hcl) ⟨h2, hW.2.1, h3, h4, hW.2.2.2.2⟩
  rw [upd1_at] at k2
  exact k2
theorem q_nwc {len : Nat} (hC : CallFix p m c cc nL s args GW own) (hW : Wd G n ad I L R A H0 H locs s) (hcl : Cl n R) (hk : kd n = (2, len)) (hcells : cells + 1 ≤ Rm.cells) (hslots : slots + len ≤ Rm.slots) (hdg : decode cc pc = .ok (.newarray .char, 2)) (kk : ∀ (ad1 : Nat → Nat) (H1 : Heap), (∀ k, k < n → ad1 k = ad k) → Cl (n + 1) (zr R n none) → Wd G (n + 1) ad1 (zr I n 0) (zr L n 0) (zr R n none) A H0 H1 locs s → W p l e Rm s m args below meth c H1 locs (cells + 1) (slots + len) Q (F0 m (pc + 2) ls (.ref (ad1 n) :: rest))) : W p l e Rm s m args below meth c H locs cells slots Q (F0 m pc ls (.int (nI len) :: rest)) := by
  have hl1 : len < 1000 := kd_len hk
  refine va_newa (atype := .char) hC.1 hC.2.1 (hC.2.2.2.2 _ gw_62) (ty := .char) rfl hW.2.1 hW.1 hW.2.2.1 hW.2.2.2.1 hW.2.2.2.2.1 (N' := len) (a0 := (len, .inl (fun _ => 0))) (fun _ => rfl) (nI_pos (by omega)) (nI_clamp (by omega)) (by8 hl1 (by decide)) hcells hslots hdg (fun q cA H1 h1 h2 h3 h4 => ?_)
  have ec : cA = G.2 2 := cA_eq h1 hW.2.1 (i := 7) (j := 2) rfl rfl
  subst ec
  rw [← upd1_at ad n q] at h2 h3
  rw [wl_app (ad' := upd1 ad n q) (I' := zr I n 0) (L' := zr L n 0) (R' := zr R n none) hcl (fun k hk => upd1_lt hk) (fun k hk => zr_ne (by omega)) (fun k hk => zr_ne (by omega)) (fun k hk => zr_ne (by omega)) (by unfold ct; rw [zr_eq, zr_eq, zr_eq, hk]; rfl)] at h2 h3
  have k2 := kk (upd1 ad n q) H1 (fun k hk => upd1_lt hk) (Cl_z hcl) ⟨h2, hW.2.1, h3, h4, hW.2.2.2.2⟩
  rw [upd1_at] at k2
  exact k2
theorem q_nwq {len index : Nat} (hC : CallFix p m c cc nL s args GW own) (hW : Wd G n ad I L R A H0 H locs s) (hcl : Cl n R) (hk : kd n = (4, len)) (hl : Cond.classLink own index "CoinRows$Model" ∈ GW) (hcells : cells + 1 ≤ Rm.cells) (hslots : slots + len ≤ Rm.slots) (hdg : decode cc pc = .ok (.anewarray index, 3)) (kk : ∀ (ad1 : Nat → Nat) (H1 : Heap), (∀ k, k < n → ad1 k = ad k) → Cl (n + 1) (zr R n none) → Wd G (n + 1) ad1 (zr I n 0) (zr L n 0) (zr R n none) A H0 H1 locs s → W p l e Rm s m args below meth c H1 locs (cells + 1) (slots + len) Q (F0 m (pc + 3) ls (.ref (ad1 n) :: rest))) : W p l e Rm s m args below meth c H locs cells slots Q (F0 m pc ls (.int (nI len) :: rest)) := by
  have hl1 : len < 1000 := kd_len hk
  refine va_newq hC.1 hC.2.1 hC.2.2.2.1 (hC.2.2.2.2 _ hl) hW.2.2.2.2.2.2.2.2.2.1 hW.2.1 hW.1 hW.2.2.1 hW.2.2.2.1 hW.2.2.2.2.1 (N' := len) (nI_pos (by omega)) (nI_clamp (by omega)) (by omega) hcells hslots hdg (fun q cA H1 h1 h2 h3 h4 => ?_)
  have ec : cA = G.2 4 := cA_eq h1 hW.2.1 (i := 7) (j := 4) rfl rfl
  subst ec
  rw [← upd1_at ad n q] at h2 h3
  rw [wl_app (ad' := upd1 ad n q) (I' := zr I n 0) (L' := zr L n 0) (R' := zr R n none) hcl (fun k hk => upd1_lt hk) (fun k hk => zr_ne (by omega)) (fun k hk => zr_ne (by omega)) (fun k hk => zr_ne (by omega)) (by unfold ct; rw [zr_eq, zr_eq, zr_eq, hk]; rfl)] at h2 h3
  have k2 := kk (upd1 ad n q) H1 (fun k hk => upd1_lt hk) (Cl_z hcl) ⟨h2, hW.2.1, h3, h4, hW.2.2.2.2⟩
  rw [upd1_at] at k2
  exact k2
theorem q_nwo0 {index : Nat} (hC : CallFix p m c cc nL s args GW own) (hW : Wd G n ad I L R A H0 H locs s) (hcl : Cl n R) (hk : kd n = (10, 3)) (hl : Cond.classLink own index "CoinRows$Model" ∈ GW) (hcells : cells + 1 ≤ Rm.cells) (hslots : slots + 3 ≤ Rm.slots) (hdg : decode cc pc = .ok (.new index, 3)) (kk : ∀ (ad1 : Nat → Nat) (H1 : Heap), (∀ k, k < n → ad1 k = ad k) → Cl (n + 1) (zr R n none) → Wd G (n + 1) ad1 (zr I n 0) (zr L n 0) (zr R n none) A H0 H1 locs s → W p l e Rm s m args below meth c H1 locs (cells + 1) (slots + 3) Q (F0 m (pc + 3) ls (.ref (ad1 n) :: rest))) : W p l e Rm s m args below meth c H locs cells slots Q (F0 m pc ls rest) := by
  refine va_new (T := TX0) (N := 3) (ci := 0) hC.1 hC.2.1 hC.2.2.2.2 u_X0 tyX0 tyX0_ok hC.2.2.2.1 (hC.2.2.2.2 _ hl) (hC.2.2.2.2 _ gw_18) (hC.2.2.2.2 _ gw_2) hW.2.1 hW.1 hW.2.2.1 hW.2.2.2.1 hW.2.2.2.2.1 rfl (fs := flds ad (fun _ => 0) (fun _ => 0) (fun _ => none) 10) (fun j hj => by have h9 : j = 0 ∨ j = 1 ∨ j = 2 := (by omega); rcases h9 with rfl | rfl | rfl <;> rfl) hcells hslots hdg (fun q H1 h2 h3 h4 => ?_)
  rw [← upd1_at ad n q] at h2 h3
  rw [wl_app (ad' := upd1 ad n q) (I' := zr I n 0) (L' := zr L n 0) (R' := zr R n none) hcl (fun k hk => upd1_lt hk) (fun k hk => zr_ne (by omega)) (fun k hk => zr_ne (by omega)) (fun k hk => zr_ne (by omega)) (by unfold ct; rw [zr_eq, zr_eq, zr_eq, hk]; rfl)] at h2 h3
  have k2 := kk (upd1 ad n q) H1 (fun k hk => upd1_lt hk) (Cl_z hcl) ⟨h2, hW.2.1, h3, h4, hW.2.2.2.2⟩
  rw [upd1_at] at k2
  exact k2
theorem q_nwo1 {index : Nat} (hC : CallFix p m c cc nL s args GW own) (hW : Wd G n ad I L R A H0 H locs s) (hcl : Cl n R) (hk : kd n = (11, 4)) (hl : Cond.classLink own index "CoinRows$Pad" ∈ GW) (hcells : cells + 1 ≤ Rm.cells) (hslots : slots + 4 ≤ Rm.slots) (hdg : decode cc pc = .ok (.new index, 3)) (kk : ∀ (ad1 : Nat → Nat) (H1 : Heap), (∀ k, k < n → ad1 k = ad k) → Cl (n + 1) (zr R n none) → Wd G (n + 1) ad1 (zr I n 0) (zr L n 0) (zr R n none) A H0 H1 locs s → W p l e Rm s m args below meth c H1 locs (cells + 1) (slots + 4) Q (F0 m (pc + 3) ls (.ref (ad1 n) :: rest))) : W p l e Rm s m args below meth c H locs cells slots Q (F0 m pc ls rest) := by
  refine va_new (T := TX1) (N := 4) (ci := 1) hC.1 hC.2.1 hC.2.2.2.2 u_X1 tyX1 tyX1_ok hC.2.2.2.1 (hC.2.2.2.2 _ hl) (hC.2.2.2.2 _ gw_43) (hC.2.2.2.2 _ gw_3) hW.2.1 hW.1 hW.2.2.1 hW.2.2.2.1 hW.2.2.2.2.1 rfl (fs := flds ad (fun _ => 0) (fun _ => 0) (fun _ => none) 11) (fun j hj => by have h9 : j = 0 ∨ j = 1 ∨ j = 2 ∨ j = 3 := (by omega); rcases h9 with rfl | rfl | rfl | rfl <;> rfl) hcells hslots hdg (fun q H1 h2 h3 h4 => ?_)
  rw [← upd1_at ad n q] at h2 h3
  rw [wl_app (ad' := upd1 ad n q) (I' := zr I n 0) (L' := zr L n 0) (R' := zr R n none) hcl (fun k hk => upd1_lt hk) (fun k hk => zr_ne (by omega)) (fun k hk => zr_ne (by omega)) (fun k hk => zr_ne (by omega)) (by unfold ct; rw [zr_eq, zr_eq, zr_eq, hk]; rfl)] at h2 h3
  have k2 := kk (upd1 ad n q) H1 (fun k hk => upd1_lt hk) (Cl_z hcl) ⟨h2, hW.2.1, h3, h4, hW.2.2.2.2⟩
  rw [upd1_at] at k2
  exact k2
theorem q_nwo2 {index : Nat} (hC : CallFix p m c cc nL s args GW own) (hW : Wd G n ad I L R A H0 H locs s) (hcl : Cl n R) (hk : kd n = (12, 5)) (hl : Cond.classLink own index "CoinRows$Sums" ∈ GW) (hcells : cells + 1 ≤ Rm.cells) (hslots : slots + 5 ≤ Rm.slots) (hdg : decode cc pc = .ok (.new index, 3)) (kk : ∀ (ad1 : Nat → Nat) (H1 : Heap), (∀ k, k < n → ad1 k = ad k) → Cl (n + 1) (zr R n none) → Wd G (n + 1) ad1 (zr I n 0) (zr L n 0) (zr R n none) A H0 H1 locs s → W p l e Rm s m args below meth c H1 locs (cells + 1) (slots + 5) Q (F0 m (pc + 3) ls (.ref (ad1 n) :: rest))) : W p l e Rm s m args below meth c H locs cells slots Q (F0 m pc ls rest) := by
  refine va_new (T := TX2) (N := 5) (ci := 2) hC.1 hC.2.1 hC.2.2.2.2 u_X2 tyX2 tyX2_ok hC.2.2.2.1 (hC.2.2.2.2 _ hl) (hC.2.2.2.2 _ gw_64) (hC.2.2.2.2 _ gw_4) hW.2.1 hW.1 hW.2.2.1 hW.2.2.2.1 hW.2.2.2.2.1 rfl (fs := flds ad (fun _ => 0) (fun _ => 0) (fun _ => none) 12) (fun j hj => by have h9 : j = 0 ∨ j = 1 ∨ j = 2 ∨ j = 3 ∨ j = 4 := (by omega); rcases h9 with rfl | rfl | rfl | rfl | rfl <;> rfl) hcells hslots hdg (fun q H1 h2 h3 h4 => ?_)
  rw [← upd1_at ad n q] at h2 h3
  rw [wl_app (ad' := upd1 ad n q) (I' := zr I n 0) (L' := zr L n 0) (R' := zr R n none) hcl (fun k hk => upd1_lt hk) (fun k hk => zr_ne (by omega)) (fun k hk => zr_ne (by omega)) (fun k hk => zr_ne (by omega)) (by unfold ct; rw [zr_eq, zr_eq, zr_eq, hk]; rfl)] at h2 h3
  have k2 := kk (upd1 ad n q) H1 (fun k hk => upd1_lt hk) (Cl_z hcl) ⟨h2, hW.2.1, h3, h4, hW.2.2.2.2⟩
  rw [upd1_at] at k2
  exact k2
theorem q_nwo3 {index : Nat} (hC : CallFix p m c cc nL s args GW own) (hW : Wd G n ad I L R A H0 H locs s) (hcl : Cl n R) (hk : kd n = (13, 1)) (hl : Cond.classLink own index "CoinRows$Trainer" ∈ GW) (hcells : cells + 1 ≤ Rm.cells) (hslots : slots + 1 ≤ Rm.slots) (hdg : decode cc pc = .ok (.new index, 3)) (kk : ∀ (ad1 : Nat → Nat) (H1 : Heap), (∀ k, k < n → ad1 k = ad k) → Cl (n + 1) (zr R n none) → Wd G (n + 1) ad1 (zr I n 0) (zr L n 0) (zr R n none) A H0 H1 locs s → W p l e Rm s m args below meth c H1 locs (cells + 1) (slots + 1) Q (F0 m (pc + 3) ls (.ref (ad1 n) :: rest))) : W p l e Rm s m args below meth c H locs cells slots Q (F0 m pc ls rest) := by
  refine va_new (T := TX3) (N := 1) (ci := 3) hC.1 hC.2.1 hC.2.2.2.2 u_X3 tyX3 tyX3_ok hC.2.2.2.1 (hC.2.2.2.2 _ hl) (hC.2.2.2.2 _ gw_115) (hC.2.2.2.2 _ gw_6) hW.2.1 hW.1 hW.2.2.1 hW.2.2.2.1 hW.2.2.2.2.1 rfl (fs := flds ad (fun _ => 0) (fun _ => 0) (fun _ => none) 13) (fun j hj => by have h9 : j = 0 := (by omega); rcases h9 with rfl <;> rfl) hcells hslots hdg (fun q H1 h2 h3 h4 => ?_)
  rw [← upd1_at ad n q] at h2 h3
  rw [wl_app (ad' := upd1 ad n q) (I' := zr I n 0) (L' := zr L n 0) (R' := zr R n none) hcl (fun k hk => upd1_lt hk) (fun k hk => zr_ne (by omega)) (fun k hk => zr_ne (by omega)) (fun k hk => zr_ne (by omega)) (by unfold ct; rw [zr_eq, zr_eq, zr_eq, hk]; rfl)] at h2 h3
  have k2 := kk (upd1 ad n q) H1 (fun k hk => upd1_lt hk) (Cl_z hcl) ⟨h2, hW.2.1, h3, h4, hW.2.2.2.2⟩
  rw [upd1_at] at k2
  exact k2
theorem q_nwo4 {index : Nat} (hC : CallFix p m c cc nL s args GW own) (hW : Wd G n ad I L R A H0 H locs s) (hcl : Cl n R) (hk : kd n = (14, 4)) (hl : Cond.classLink own index "CoinRows$Walk" ∈ GW) (hcells : cells + 1 ≤ Rm.cells) (hslots : slots + 4 ≤ Rm.slots) (hdg : decode cc pc = .ok (.new index, 3)) (kk : ∀ (ad1 : Nat → Nat) (H1 : Heap), (∀ k, k < n → ad1 k = ad k) → Cl (n + 1) (zr R n none) → Wd G (n + 1) ad1 (zr I n 0) (zr L n 0) (zr R n none) A H0 H1 locs s → W p l e Rm s m args below meth c H1 locs (cells + 1) (slots + 4) Q (F0 m (pc + 3) ls (.ref (ad1 n) :: rest))) : W p l e Rm s m args below meth c H locs cells slots Q (F0 m pc ls rest) := by
  refine va_new (T := TX4) (N := 4) (ci := 4) hC.1 hC.2.1 hC.2.2.2.2 u_X4 tyX4 tyX4_ok hC.2.2.2.1 (hC.2.2.2.2 _ hl) (hC.2.2.2.2 _ gw_95) (hC.2.2.2.2 _ gw_5) hW.2.1 hW.1 hW.2.2.1 hW.2.2.2.1 hW.2.2.2.2.1 rfl (fs := flds ad (fun _ => 0) (fun _ => 0) (fun _ => none) 14) (fun j hj => by have h9 : j = 0 ∨ j = 1 ∨ j = 2 ∨ j = 3 := (by omega); rcases h9 with rfl | rfl | rfl | rfl <;> rfl) hcells hslots hdg (fun q H1 h2 h3 h4 => ?_)
  rw [← upd1_at ad n q] at h2 h3
  rw [wl_app (ad' := upd1 ad n q) (I' := zr I n 0) (L' := zr L n 0) (R' := zr R n none) hcl (fun k hk => upd1_lt hk) (fun k hk => zr_ne (by omega)) (fun k hk => zr_ne (by omega)) (fun k hk => zr_ne (by omega)) (by unfold ct; rw [zr_eq, zr_eq, zr_eq, hk]; rfl)] at h2 h3
  have k2 := kk (upd1 ad n q) H1 (fun k hk => upd1_lt hk) (Cl_z hcl) ⟨h2, hW.2.1, h3, h4, hW.2.2.2.2⟩
  rw [upd1_at] at k2
  exact k2
theorem q_nwo5 {index : Nat} (hC : CallFix p m c cc nL s args GW own) (hW : Wd G n ad I L R A H0 H locs s) (hcl : Cl n R) (hk : kd n = (15, 8)) (hl : Cond.classLink own index "CoinRows" ∈ GW) (hcells : cells + 1 ≤ Rm.cells) (hslots : slots + 8 ≤ Rm.slots) (hdg : decode cc pc = .ok (.new index, 3)) (kk : ∀ (ad1 : Nat → Nat) (H1 : Heap), (∀ k, k < n → ad1 k = ad k) → Cl (n + 1) (zr R n none) → Wd G (n + 1) ad1 (zr I n 0) (zr L n 0) (zr R n none) A H0 H1 locs s → W p l e Rm s m args below meth c H1 locs (cells + 1) (slots + 8) Q (F0 m (pc + 3) ls (.ref (ad1 n) :: rest))) : W p l e Rm s m args below meth c H locs cells slots Q (F0 m pc ls rest) := by
  refine va_new (T := TX5) (N := 8) (ci := 5) hC.1 hC.2.1 hC.2.2.2.2 u_X5 tyX5 tyX5_ok hC.2.2.2.1 (hC.2.2.2.2 _ hl) (hC.2.2.2.2 _ gw_10) (hC.2.2.2.2 _ gw_1) hW.2.1 hW.1 hW.2.2.1 hW.2.2.2.1 hW.2.2.2.2.1 rfl (fs := flds ad (fun _ => 0) (fun _ => 0) (fun _ => none) 15) (fun j hj => by have h9 : j = 0 ∨ j = 1 ∨ j = 2 ∨ j = 3 ∨ j = 4 ∨ j = 5 ∨ j = 6 ∨ j = 7 := (by omega); rcases h9 with rfl | rfl | rfl | rfl | rfl | rfl | rfl | rfl <;> rfl) hcells hslots hdg (fun q H1 h2 h3 h4 => ?_)
  rw [← upd1_at ad n q] at h2 h3
  rw [wl_app (ad' := upd1 ad n q) (I' := zr I n 0) (L' := zr L n 0) (R' := zr R n none) hcl (fun k hk => upd1_lt hk) (fun k hk => zr_ne (by omega)) (fun k hk => zr_ne (by omega)) (fun k hk => zr_ne (by omega)) (by unfold ct; rw [zr_eq, zr_eq, zr_eq, hk]; rfl)] at h2 h3
  have k2 := kk (upd1 ad n q) H1 (fun k hk => upd1_lt hk) (Cl_z hcl) ⟨h2, hW.2.1, h3, h4, hW.2.2.2.2⟩
  rw [upd1_at] at k2
  exact k2
theorem q_nwml {M index : Nat} (hC : CallFix p m c cc nL s args GW own) (hW : Wd G n ad I L R A H0 H locs s) (hcl : Cl n R) (hk : kd n = (5, 7)) (hk2 : ∀ j, j < 7 → kd (n + 1 + j) = (1, M)) (hl : Cond.classLink own index "[[J" ∈ GW) (hcells : cells + (1 + 7) ≤ Rm.cells) (hslots : slots + (7 + 7 * M) ≤ Rm.slots) (hdg : decode cc pc = .ok (.multianewarray index 2, 4)) (kk : ∀ (ad1 : Nat → Nat) (H1 : Heap), (∀ k, k < n → ad1 k = ad k) → Cl (n + 8) (mmR n R) → Wd G (n + 8) ad1 (zz n 8 I 0) (zz n 8 L 0) (mmR n R) A H0 H1 locs s → W p l e Rm s m args below meth c H1 locs (cells + 1 + 7) (slots + 7 + 7 * M) Q (F0 m (pc + 4) ls (.ref (ad1 n) :: rest))) : W p l e Rm s m args below meth c H locs cells slots Q (F0 m pc ls (.int (nI M) :: .int (nI 7) :: rest)) := by
  have hM1 : M < 1000 := kd_len (hk2 0 (by decide))
  have c7 : (nI 7).toNatClampNeg = 7 := nI_clamp (by decide)
  have cM : (nI M).toNatClampNeg = M := nI_clamp (by omega)
  intro T hT X
  subst hT
  obtain ⟨vm₁, cA, comp, hWm, hfA, hfC, hO, hI, X1, step⟩ := X.multianewarray2F hC.1 (ty := .long) hC.2.2.2.1 (hC.2.2.2.2 _ hl) hW.2.2.2.2.2.2.2.2.2.2.1 (hC.2.2.2.2 _ gw_93) (g := F0 m pc ls (.int (nI M) :: .int (nI 7) :: rest)) rfl (by rw [hC.2.1]; exact hdg) rfl (nI_pos (by decide)) (nI_pos (by omega)) (by rw [c7]; decide) (by rw [cM]; exact by8 hM1 (by decide)) (by rw [cM]; omega) rfl rfl (by rw [c7]; exact hcells) (by rw [c7, cM]; exact hslots)
  rw [c7, cM] at X1 step
  obtain ⟨f1, f2, f3, f4⟩ := Jvm.Free.Multi.fill_facts (T.setVm vm₁) cA comp 7 M (defaultValue .long) 7
  have fo := fun (a : Addr) (ha : a < T.heap.size) => Jvm.Free.Multi.fill_old (T.setVm vm₁) cA comp 7 M (defaultValue .long) (a := a) ha 7
  have fi := fun (j : Nat) (hj : j < 7) => Jvm.Free.Multi.fill_inner (T.setVm vm₁) cA comp 7 M (defaultValue .long) 7 j hj
  have eA : G.2 5 = cA := Option.some.inj ((hW.2.1.2 5 _ rfl).2.symm.trans hfA)
  have eC : G.2 1 = comp := Option.some.inj ((hW.2.1.2 1 _ rfl).2.symm.trans hfC)
  have h1 := kk (ad8 ad n T.heap.size) _ (fun k hk => ad8_lt hk) (mmR_Cl hcl) ⟨mm_P hcl hk hk2 hW.1 fo (by rw [eA]; exact f2) (fun j hj => by rw [eC]; exact fi j hj) (fun f i l => rfl) (fun ad1 k => rfl), hW.2.1, mm_D hW.2.2.1 hW.1 (fun q hq => hW.2.2.2.2.1 q (Nat.le_trans hW.2.2.2.1.1 hq)), ⟨by rw [f1]; have := hW.2.2.2.1.1; show _ ≤ T.heap.size + 1 + 7; omega, fun q h1 h2 => (fo q (Nat.lt_of_lt_of_le h1 hW.2.2.2.1.1)).trans (hW.2.2.2.1.2.1 q h1 h2), hW.2.2.2.1.2.2⟩, hW.2.2.2.2⟩
  rw [ad8_n] at h1
  obtain ⟨t, a, b⟩ := h1 _ rfl X1
  exact ⟨t, step t a, b⟩
theorem q_nwmi {M index : Nat} (hC : CallFix p m c cc nL s args GW own) (hW : Wd G n ad I L R A H0 H locs s) (hcl : Cl n R) (hk : kd n = (6, 7)) (hk2 : ∀ j, j < 7 → kd (n + 1 + j) = (0, M)) (hl : Cond.classLink own index "[[I" ∈ GW) (hcells : cells + (1 + 7) ≤ Rm.cells) (hslots : slots + (7 + 7 * M) ≤ Rm.slots) (hdg : decode cc pc = .ok (.multianewarray index 2, 4)) (kk : ∀ (ad1 : Nat → Nat) (H1 : Heap), (∀ k, k < n → ad1 k = ad k) → Cl (n + 8) (mmR n R) → Wd G (n + 8) ad1 (zz n 8 I 0) (zz n 8 L 0) (mmR n R) A H0 H1 locs s → W p l e Rm s m args below meth c H1 locs (cells + 1 + 7) (slots + 7 + 7 * M) Q (F0 m (pc + 4) ls (.ref (ad1 n) :: rest))) : W p l e Rm s m args below meth c H locs cells slots Q (F0 m pc ls (.int (nI M) :: .int (nI 7) :: rest)) := by
  have hM1 : M < 1000 := kd_len (hk2 0 (by decide))
  have c7 : (nI 7).toNatClampNeg = 7 := nI_clamp (by decide)
  have cM : (nI M).toNatClampNeg = M := nI_clamp (by omega)
  intro T hT X
  subst hT
  obtain ⟨vm₁, cA, comp, hWm, hfA, hfC, hO, hI, X1, step⟩ := X.multianewarray2F hC.1 (ty := .int) hC.2.2.2.1 (hC.2.2.2.2 _ hl) hW.2.2.2.2.2.2.2.2.2.2.2 (hC.2.2.2.2 _ gw_40) (g := F0 m pc ls (.int (nI M) :: .int (nI 7) :: rest)) rfl (by rw [hC.2.1]; exact hdg) rfl (nI_pos (by decide)) (nI_pos (by omega)) (by rw [c7]; decide) (by rw [cM]; exact by8 hM1 (by decide)) (by rw [cM]; omega) rfl rfl (by rw [c7]; exact hcells) (by rw [c7, cM]; exact hslots)
  rw [c7, cM] at X1 step
  obtain ⟨f1, f2, f3, f4⟩ := Jvm.Free.Multi.fill_facts (T.setVm vm₁) cA comp 7 M (defaultValue .int) 7
  have fo := fun (a : Addr) (ha : a < T.heap.size) => Jvm.Free.Multi.fill_old (T.setVm vm₁) cA comp 7 M (defaultValue .int) (a := a) ha 7
  have fi := fun (j : Nat) (hj : j < 7) => Jvm.Free.Multi.fill_inner (T.setVm vm₁) cA comp 7 M (defaultValue .int) 7 j hj
  have eA : G.2 6 = cA := Option.some.inj ((hW.2.1.2 6 _ rfl).2.symm.trans hfA)
  have eC : G.2 0 = comp := Option.some.inj ((hW.2.1.2 0 _ rfl).2.symm.trans hfC)
  have h1 := kk (ad8 ad n T.heap.size) _ (fun k hk => ad8_lt hk) (mmR_Cl hcl) ⟨mm_P hcl hk hk2 hW.1 fo (by rw [eA]; exact f2) (fun j hj => by rw [eC]; exact fi j hj) (fun f i l => rfl) (fun ad1 k => rfl), hW.2.1, mm_D hW.2.2.1 hW.1 (fun q hq => hW.2.2.2.2.1 q (Nat.le_trans hW.2.2.2.1.1 hq)), ⟨by rw [f1]; have := hW.2.2.2.1.1; show _ ≤ T.heap.size + 1 + 7; omega, fun q h1 h2 => (fo q (Nat.lt_of_lt_of_le h1 hW.2.2.2.1.1)).trans (hW.2.2.2.1.2.1 q h1 h2), hW.2.2.2.1.2.2⟩, hW.2.2.2.2⟩
  rw [ad8_n] at h1
  obtain ⟨t, a, b⟩ := h1 _ rfl X1
  exact ⟨t, step t a, b⟩
theorem q_more {g : JFrame} (c2 s2 : Nat) (hc : cells ≤ c2) (hs : slots ≤ s2) (kk : W p l e Rm s m args below meth c H locs c2 s2 Q g) : W p l e Rm s m args below meth c H locs cells slots Q g := fun T hT X => kk T hT (X.more hc hs)
end QAL
