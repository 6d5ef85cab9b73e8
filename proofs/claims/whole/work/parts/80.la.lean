theorem InvB_fr {n n1 : Nat} {I I1 : Ic} {R R1 : Rc} {S : ST} (h : InvB n I R S) (hn : 83 ≤ n1) (hlk : LkOK n1 R1) (hf : ∀ a, 71 ≤ a → a < 83 → I1 a = I a) : InvB n1 I1 R1 S :=
  ⟨hn, hlk, by rw [hf 72 (by decide) (by decide)]; exact h.2.2.1, HwB_fr h.2.2.2.1 (by rw [hf 71 (by decide) (by decide)]) (hf 73 (by decide) (by decide)), SwB_fr h.2.2.2.2.1 (hf 74 (by decide) (by decide)) (hf 75 (by decide) (by decide)), PdB_fr h.2.2.2.2.2 (by rw [hf 71 (by decide) (by decide)]) (hf 76 (by decide) (by decide))⟩
theorem InvA_fr {n : Nat} {I I1 : Ic} {L L1 : Lc} {R : Rc} {S : ST} (h : InvA n I L R S) (hf : ∀ a, a < 71 ∨ 83 ≤ a → I1 a = I a ∧ L1 a = L a) : InvA n I1 L1 R S :=
  ⟨h.1, h.2.1, MdI_lo h.2.2.1 (fun a ha => (hf a (by omega)).1), SI_lo h.2.2.2.1 (fun a ha => (hf a (by omega)).2), PadI_lo h.2.2.2.2.1 (hf 6 (by omega)).1 (hf 7 (by omega)).1, HiA_fr h.2.2.2.2.2.1 (hf 0 (by omega)).1 (fun a h1 h2 => (hf a (by omega)).1), SvA_fr h.2.2.2.2.2.2 (fun a h1 => (hf a (by omega)).1)⟩
def S00 : ST := ((w0, 0, fun _ => 0), 0, fun _ => (w0, 0, fun _ => 0), fun _ => none, 0, fun _ => 33)
/-- both as they are made -/
theorem Inv_00 {ad ad2 : Nat → Nat} {I2 I4 : Ic} {L2 L4 : Lc} {R2 R4 : Rc} {Ib : Ic} {Lb : Lc} {Rb : Rc} {ad0 : Nat → Nat} {n1 n2 : Nat} {ad4 : Nat → Nat} (h1 : NewF 0 71 ad0 Ib Lb Rb n1 ad2 I2 L2 R2 ∧ IniA I2 L2 R2) (h2 : NewF 71 83 ad (zr I2 71 0) (zr L2 71 0) (zr R2 71 none) n2 ad4 I4 L4 R4 ∧ IniB I4) : InvA 83 I4 L4 R4 S00 ∧ InvB 83 I4 R4 S00 := by
  obtain ⟨⟨-, -, -, -, hlk1⟩, hi1, hi2, hi3, hi4, hi5, hi6⟩ := h1
  obtain ⟨⟨-, -, hf, hcl, hlk2⟩, hj1, hj2, hj3, hj4⟩ := h2
  have fI : ∀ k, k < 71 → I4 k = I2 k := fun k hk => by rw [(hf k hk).1, zr_ne (by omega)]
  have fL : ∀ k, k < 71 → L4 k = L2 k := fun k hk => by rw [(hf k hk).2.1, zr_ne (by omega)]
  have fR : ∀ k, k < 71 → R4 k = R2 k := fun k hk => by rw [(hf k hk).2.2, zr_ne (by omega)]
  have hlk : LkOK 83 R4 := fun a j y ha hl => by
    by_cases e : a < 71
    · rw [fR a e]; exact hlk1 a j y (by omega) e hl
    · exact hlk2 a j y (by omega) ha hl
  have hP : PadI I4 0 (fun _ => 33) := ⟨by rw [fI 6 (by decide)]; exact hi3, by decide, fun j hj => absurd hj (by omega), fun _ => (by decide : 33 ≤ 33 ∧ 33 ≤ 126)⟩
  have hH : HiA I4 R4 0 (fun _ => (w0, 0, fun _ => 0)) := ⟨by rw [fI 0 (by decide)]; exact hi4, by decide, fun i => i, fun i hi => ⟨hi, by rw [fR 4 (by decide)]; exact hi5 i hi⟩, fun i j _ _ h => h, fun i hi => absurd hi (by omega)⟩
  have hS : SvA 83 I4 R4 (fun _ => none) := ⟨fun i => i, fun i hi => ⟨fun m hm => absurd (show (none : Option CM) = some m from hm) (by simp), fun _ => (by rw [fR 5 (by decide)]; exact hi6 i hi)⟩, fun i j _ _ h _ _ => absurd rfl h, hcl, 0, rfl⟩
  have hB1 : HwB I4 0 (fun _ => (w0, 0, fun _ => 0)) := ⟨hj2, by decide, fun i hi => absurd hi (by omega)⟩
  have hB2 : SwB I4 (fun _ => none) := fun j hj => ⟨fun m hm => absurd (show (none : Option CM) = some m from hm) (by simp), fun _ => hj4 j⟩
  have hB3 : PdB I4 0 (fun _ => 33) := ⟨hj3, by decide, fun j hj => absurd hj (by omega), fun _ => (by decide : 33 ≤ 33 ∧ 33 ≤ 126)⟩
  exact ⟨⟨by decide, hlk, MdI_lo hi1 (fun a ha => fI a (by omega)), SI_lo hi2 (fun a ha => fL a (by omega)), hP, hH, hS⟩, ⟨by decide, hlk, hj1, hB1, hB2, hB3⟩⟩
theorem in_k {i L : Nat} (h : i < L) (hL : L ≤ 2560) : vp_in (nI i) L := fun q => by
  have h1 : (nI i).toInt = i := nI_toInt (by omega)
  rcases q with q | q
  · have h2 := Int32.lt_iff_toInt_lt.mp q
    rw [h1, show (0 : Int32).toInt = 0 by decide] at h2
    omega
  · rw [nI_clamp (by omega)] at q
    omega
/-- the classes of this program, as the tables have them -/
theorem lw_known {s : State} {args : Array Value} (hts : ∀ w ∈ lw_tbl, w.before args s = true) : ∃ G : Gx, va_K G.1 vwCl (tyl G) s ∧ NB s := by
  have ht : ∀ {k : Nat} {w : Cond}, tables_1[k]? = some w → w.before args s = true := fun h => hts _ (List.mem_append_right _ (List.mem_of_getElem? h))
  have hg : ∀ w ∈ GW, w.before args s = true := fun w hw => hts w (List.mem_filter.mp hw).1
  obtain ⟨c0, i0, k0⟩ := u_known (C := RX0) (T := TX0) (N := 3) (n := 3) hg u_X0 (ht (k := 20) (by decide +kernel))
  obtain ⟨c1, i1, k1⟩ := u_known (C := RX1) (T := TX1) (N := 4) (n := 4) hg u_X1 (ht (k := 47) (by decide +kernel))
  obtain ⟨c2, i2, k2⟩ := u_known (C := RX2) (T := TX2) (N := 5) (n := 5) hg u_X2 (ht (k := 70) (by decide +kernel))
  obtain ⟨c3, i3, k3⟩ := u_known (C := RX3) (T := TX3) (N := 1) (n := 1) hg u_X3 (ht (k := 121) (by decide +kernel))
  obtain ⟨c4, i4, k4⟩ := u_known (C := RX4) (T := TX4) (N := 4) (n := 4) hg u_X4 (ht (k := 101) (by decide +kernel))
  obtain ⟨c5, i5, k5⟩ := u_known (C := RX5) (T := TX5) (N := 8) (n := 8) hg u_X5 (ht (k := 12) (by decide +kernel))
  obtain ⟨c6, i6, k6⟩ := u_known (C := RX6) (T := TX6) (N := 16) (n := 16) hg u_X6 (ht (k := 478) (by decide +kernel))
  obtain ⟨a0, e0, p0, f0, g0, h0⟩ := Cond.arrayClass_spec (ht (k := 44) (w := Cond.arrayClass .int) (by decide +kernel))
  obtain ⟨a1, e1, p1, f1, g1, h1⟩ := Cond.arrayClass_spec (ht (k := 99) (w := Cond.arrayClass .long) (by decide +kernel))
  obtain ⟨a2, e2, p2, f2, g2, h2⟩ := Cond.arrayClass_spec (ht (k := 68) (w := Cond.arrayClass .char) (by decide +kernel))
  obtain ⟨a3, e3, p3, f3, g3, h3⟩ := Cond.arrayClass_spec (ht (k := 532) (w := Cond.arrayClass .boolean) (by decide +kernel))
  have o4 := ht (k := 45) (w := Cond.arrayOver (.object "CoinRows$Model")) (by decide +kernel)
  have o5 := ht (k := 76) (w := Cond.arrayOver (.array .long)) (by decide +kernel)
  have o6 := ht (k := 78) (w := Cond.arrayOver (.array .int)) (by decide +kernel)
  obtain ⟨p4, a4, e4, q4, -, f4, h4, g4⟩ := Cond.arrayOver_spec o4
  obtain ⟨p5, a5, e5, q5, f5, h5, g5⟩ := Cond.arrayOver_specA o5
  obtain ⟨p6, a6, e6, q6, f6, h6, g6⟩ := Cond.arrayOver_specA o6
  refine ⟨((fun k => if k = 0 then c0 else if k = 1 then c1 else if k = 2 then c2 else if k = 3 then c3 else if k = 4 then c4 else if k = 5 then c5 else c6, fun k => if k = 0 then i0 else if k = 1 then i1 else if k = 2 then i2 else if k = 3 then i3 else if k = 4 then i4 else if k = 5 then i5 else i6), fun k => if k = 0 then a0 else if k = 1 then a1 else if k = 2 then a2 else if k = 3 then a3 else if k = 4 then a4 else if k = 5 then a5 else a6), ⟨fun k q hq => ?_, fun k q hq => ?_⟩, ?_⟩
  · match k, hq with
    | 0, hq => cases hq; exact k0
    | 1, hq => cases hq; exact k1
    | 2, hq => cases hq; exact k2
    | 3, hq => cases hq; exact k3
    | 4, hq => cases hq; exact k4
    | 5, hq => cases hq; exact k5
    | 6, hq => cases hq; exact k6
    | k + 7, hq => simp [vwCl] at hq
  · match k, hq with
    | 0, hq => cases hq; exact ⟨fun n z => ⟨fun k h => (by cases h), e0, g0, p0, h0⟩, f0⟩
    | 1, hq => cases hq; exact ⟨fun n z => ⟨fun k h => (by cases h), e1, g1, p1, h1⟩, f1⟩
    | 2, hq => cases hq; exact ⟨fun n z => ⟨fun k h => (by cases h), e2, g2, p2, h2⟩, f2⟩
    | 3, hq => cases hq; exact ⟨fun n z => ⟨fun k h => (by cases h), e3, g3, p3, h3⟩, f3⟩
    | 4, hq => cases hq; exact ⟨fun n z => ⟨fun k h => (by cases h), e4, f4, p4, h4⟩, ⟨e4, p4, f4, h4, q4, g4⟩⟩
    | 5, hq => cases hq; exact ⟨fun n z => ⟨fun k h => (by cases h), e5, f5, p5, h5⟩, g5⟩
    | 6, hq => cases hq; exact ⟨fun n z => ⟨fun k h => (by cases h), e6, f6, p6, h6⟩, g6⟩
    | k + 7, hq => simp [tyl] at hq
  · exact ⟨va_Nw.of rfl (ht (k := 21) (by decide +kernel)), va_Nw.of rfl (ht (k := 48) (by decide +kernel)), va_Nw.of rfl (ht (k := 102) (by decide +kernel)), va_Nw.of rfl (ht (k := 122) (by decide +kernel)), va_Nw.of rfl (ht (k := 336) (by decide +kernel)), o4, o5, o6⟩
