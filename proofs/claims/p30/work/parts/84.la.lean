def S00 : ST := ((w0, 0, fun _ => 0), 0, fun _ => (w0, 0, fun _ => 0), fun _ => none, 0, fun _ => 33)
/-- the class as it is made -/
theorem Inv_0 {ad ad2 : Nat → Nat} {I I2 : Ic} {L L2 : Lc} {R R2 : Rc} {n1 : Nat} (h1 : NewF 0 71 ad I L R n1 ad2 I2 L2 R2 ∧ IniA I2 L2 R2) : InvA 71 I2 L2 R2 S00 := by
  obtain ⟨⟨-, -, -, hcl, hlk1⟩, hi1, hi2, hi3, hi4, hi5, hi6⟩ := h1
  exact ⟨by decide, fun a j y ha hl => hlk1 a j y (Nat.zero_le a) ha hl, hi1, hi2, ⟨hi3, by decide, fun j hj => absurd hj (Nat.not_lt_zero j), fun _ => (by decide : 33 ≤ 33 ∧ 33 ≤ 126)⟩, ⟨hi4, by decide, fun i => i, fun i hi => ⟨hi, hi5 i hi⟩, fun i j _ _ h => h, fun i hi => absurd hi (Nat.not_lt_zero i)⟩, fun i hi => ⟨rfl, hi6 i hi⟩, hcl, by decide⟩
/-- the classes of this program, as the tables have them -/
theorem lw_known {s : State} {args : Array Value} (hts : ∀ w ∈ lw_tbl, w.before args s = true) : ∃ G : Gx, va_K G.1 vwCl (tyl G) s ∧ NB s := by
  have ht : ∀ {k : Nat} {w : Cond}, tables_1[k]? = some w → w.before args s = true := fun h => hts _ (List.mem_append_right _ (List.mem_of_getElem? h))
  have hg : ∀ w ∈ GW, w.before args s = true := fun w hw => hts w (List.mem_filter.mp hw).1
  obtain ⟨c0, i0, k0⟩ := u_known (C := RX0) (T := TX0) (N := 3) (n := 3) hg u_X0 (ht (k := 18) (by decide +kernel))
  obtain ⟨c1, i1, k1⟩ := u_known (C := RX1) (T := TX1) (N := 4) (n := 4) hg u_X1 (ht (k := 43) (by decide +kernel))
  obtain ⟨c2, i2, k2⟩ := u_known (C := RX2) (T := TX2) (N := 5) (n := 5) hg u_X2 (ht (k := 64) (by decide +kernel))
  obtain ⟨c3, i3, k3⟩ := u_known (C := RX3) (T := TX3) (N := 1) (n := 1) hg u_X3 (ht (k := 115) (by decide +kernel))
  obtain ⟨c4, i4, k4⟩ := u_known (C := RX4) (T := TX4) (N := 4) (n := 4) hg u_X4 (ht (k := 95) (by decide +kernel))
  obtain ⟨c5, i5, k5⟩ := u_known (C := RX5) (T := TX5) (N := 8) (n := 8) hg u_X5 (ht (k := 10) (by decide +kernel))
  obtain ⟨a0, e0, p0, f0, g0, h0⟩ := Cond.arrayClass_spec (ht (k := 40) (w := Cond.arrayClass .int) (by decide +kernel))
  obtain ⟨a1, e1, p1, f1, g1, h1⟩ := Cond.arrayClass_spec (ht (k := 93) (w := Cond.arrayClass .long) (by decide +kernel))
  obtain ⟨a2, e2, p2, f2, g2, h2⟩ := Cond.arrayClass_spec (ht (k := 62) (w := Cond.arrayClass .char) (by decide +kernel))
  have o4 := ht (k := 41) (w := Cond.arrayOver (.object "CoinRows$Model")) (by decide +kernel)
  have o5 := ht (k := 70) (w := Cond.arrayOver (.array .long)) (by decide +kernel)
  have o6 := ht (k := 72) (w := Cond.arrayOver (.array .int)) (by decide +kernel)
  obtain ⟨p4, a4, e4, q4, -, f4, h4, g4⟩ := Cond.arrayOver_spec o4
  obtain ⟨p5, a5, e5, q5, f5, h5, g5⟩ := Cond.arrayOver_specA o5
  obtain ⟨p6, a6, e6, q6, f6, h6, g6⟩ := Cond.arrayOver_specA o6
  refine ⟨((fun k => if k = 0 then c0 else if k = 1 then c1 else if k = 2 then c2 else if k = 3 then c3 else if k = 4 then c4 else c5, fun k => if k = 0 then i0 else if k = 1 then i1 else if k = 2 then i2 else if k = 3 then i3 else if k = 4 then i4 else i5), fun k => if k = 0 then a0 else if k = 1 then a1 else if k = 2 then a2 else if k = 3 then a0 else if k = 4 then a4 else if k = 5 then a5 else a6), ⟨fun k q hq => ?_, fun k q hq => ?_⟩, ?_⟩
  · match k, hq with
    | 0, hq => cases hq; exact k0
    | 1, hq => cases hq; exact k1
    | 2, hq => cases hq; exact k2
    | 3, hq => cases hq; exact k3
    | 4, hq => cases hq; exact k4
    | 5, hq => cases hq; exact k5
    | k + 6, hq => simp [vwCl] at hq
  · match k, hq with
    | 0, hq => cases hq; exact ⟨fun n z => ⟨fun k h => (by cases h), e0, g0, p0, h0⟩, f0⟩
    | 1, hq => cases hq; exact ⟨fun n z => ⟨fun k h => (by cases h), e1, g1, p1, h1⟩, f1⟩
    | 2, hq => cases hq; exact ⟨fun n z => ⟨fun k h => (by cases h), e2, g2, p2, h2⟩, f2⟩
    | 3, hq => cases hq; exact ⟨fun n z => ⟨fun k h => (by cases h), e0, g0, p0, h0⟩, f0⟩
    | 4, hq => cases hq; exact ⟨fun n z => ⟨fun k h => (by cases h), e4, f4, p4, h4⟩, ⟨e4, p4, f4, h4, q4, g4⟩⟩
    | 5, hq => cases hq; exact ⟨fun n z => ⟨fun k h => (by cases h), e5, f5, p5, h5⟩, g5⟩
    | 6, hq => cases hq; exact ⟨fun n z => ⟨fun k h => (by cases h), e6, f6, p6, h6⟩, g6⟩
    | k + 7, hq => simp [tyl] at hq
  · exact ⟨va_Nw.of rfl (ht (k := 19) (by decide +kernel)), va_Nw.of rfl (ht (k := 44) (by decide +kernel)), va_Nw.of rfl (ht (k := 96) (by decide +kernel)), va_Nw.of rfl (ht (k := 116) (by decide +kernel)), o4, o5, o6⟩
