def csB (X k : Nat) : Bool := decide (1 ≤ k) && decide (k ≤ 8) && (List.range k).all (fun j => decide (33 ≤ byt X j) && decide (byt X j ≤ 126)) && decide (X / 256 ^ k = 0)
theorem csB_iff {X k : Nat} : csB X k = true ↔ CS X k := by
  unfold csB CS
  simp only [Bool.and_eq_true, decide_eq_true_eq, List.all_eq_true, List.mem_range]
  exact ⟨fun h => ⟨h.1.1.1, h.1.1.2, h.1.2, h.2⟩, fun h => ⟨⟨⟨h.1, h.2.1⟩, h.2.2.1⟩, h.2.2.2⟩⟩
def csN (X : Nat) : Option Nat := (List.range 9).find? (csB X)
theorem cs_none {X : Nat} (h : ∀ k, ¬ CS X k) : csN X = none := by
  unfold csN
  rw [List.find?_eq_none]
  intro k _ hq
  exact h k (csB_iff.mp hq)
theorem cs_some {X k : Nat} (h : CS X k) : csN X = some k := by
  unfold csN
  cases e : (List.range 9).find? (csB X) with
  | none =>
    rw [List.find?_eq_none] at e
    have h8 := h.2.1
    exact absurd (csB_iff.mpr h) (e k (List.mem_range.mpr (by omega)))
  | some j =>
    have hj := List.find?_some e
    rw [CS_one (csB_iff.mp hj) h]
def aPut (S : ST) (X : Nat) : Int32 × ST := match csN X with
  | some k => if 80 < S.2.2.2.2.1 + k then (-4, S) else (nI (S.2.2.2.2.1 + k), (S.1, S.2.1, S.2.2.1, S.2.2.2.1, S.2.2.2.2.1 + k, chA S.2.2.2.2.2 S.2.2.2.2.1 X k))
  | none => (-2, S)
def aWipe (S : ST) : Int32 × ST := (nI S.2.2.2.2.1, (S.1, S.2.1, S.2.2.1, S.2.2.2.1, 0, S.2.2.2.2.2))
abbrev sg0 (m : CM) : Sg := (0, 0, 0, 0, m.1, m.2.1, m.2.2, 0)
def flB (pn : Nat) (ch : Nat → Nat) (s0 : Sg) (i : Nat) : Bool := match stT ch s0 i with
  | some σ => (decide (i < pn) && (stp σ (ch i)).isNone) || (decide (i = pn) && decide (σ.1 < 8))
  | none => false
theorem flB_iff {pn : Nat} {ch : Nat → Nat} {s0 : Sg} {i : Nat} : flB pn ch s0 i = true ↔ FL pn ch s0 i := by
  unfold flB FL
  cases h : stT ch s0 i with
  | none => simp
  | some σ => simp
def fltN (pn : Nat) (ch : Nat → Nat) (s0 : Sg) : Option Nat := (List.range (pn + 1)).find? (flB pn ch s0)
theorem flt_some {pn : Nat} {ch : Nat → Nat} {s0 : Sg} {i : Nat} (h : FL pn ch s0 i) : fltN pn ch s0 = some i := by
  unfold fltN
  cases e : (List.range (pn + 1)).find? (flB pn ch s0) with
  | none =>
    rw [List.find?_eq_none] at e
    have hi : i ≤ pn := by obtain ⟨σ, -, h3⟩ := h; rcases h3 with g | g <;> omega
    exact absurd (flB_iff.mpr h) (e i (List.mem_range.mpr (by omega)))
  | some j => rw [FL_one (flB_iff.mp (List.find?_some e)) h]
theorem flt_none {pn : Nat} {ch : Nat → Nat} {s0 σ : Sg} (h : OKT pn ch s0 σ) : fltN pn ch s0 = none := by
  unfold fltN
  rw [List.find?_eq_none]
  intro i _ hq
  exact FL_OK (flB_iff.mp hq) h
def aFault (S : ST) : Int32 := match fltN S.2.2.2.2.1 S.2.2.2.2.2 (sg0 S.1) with
  | some i => nI i
  | none => -6
def aLoad (S : ST) : Int32 × ST := match fltN S.2.2.2.2.1 S.2.2.2.2.2 (sg0 S.1), stT S.2.2.2.2.2 (sg0 S.1) S.2.2.2.2.1 with
  | none, some σ => (nI (σ.2.2.2.2.2.2.2 + 1), ((σ.2.2.2.2.1, σ.2.2.2.2.2.1, σ.2.2.2.2.2.2.1), hcN S.2.1, hiN S.2.1 S.2.2.1 S.1, S.2.2.2.1, 0, S.2.2.2.2.2))
  | _, _ => (-3, S)
theorem PA_p {n : Nat} {ad : Nat → Nat} {I I1 : Ic} {L : Lc} {R : Rc} {m : CM} {hc : Nat} {hi : Nat → CM} {sv : Nat → Option CM} {pn pn1 : Nat} {ch ch1 : Nat → Nat} (h : InvA n I L R (m, hc, hi, sv, pn, ch)) (hI : ∀ a, a ≠ 6 → a ≠ 7 → I1 a = I a) (hP : PadI I1 pn1 ch1) : PA n ad I L R (m, hc, hi, sv, pn1, ch1) (n, ad, I1, L, R) :=
  ⟨⟨h.1, h.2.1, MdI_lo h.2.2.1 (fun a ha => hI a (by omega) (by omega)), h.2.2.2.1, hP, HiA_fr h.2.2.2.2.2.1 (hI 0 (by decide) (by decide)) (fun a h1 h2 => hI a (by omega) (by omega)), SvA_fr h.2.2.2.2.2.2 (fun a h1 => hI a (by omega) (by omega))⟩, ⟨Nat.le_refl n, fun _ _ => rfl⟩, fun a h1 h2 => ⟨hI a (by omega) (by omega), rfl⟩⟩
theorem Pad_clr {I : Ic} {pn : Nat} {ch : Nat → Nat} (h : PadI I pn ch) : PadI (up2 I 6 1 (nI 0)) 0 ch := ⟨by rw [up2_at, if_pos ⟨rfl, rfl⟩], by omega, fun j hj => absurd hj (by omega), h.2.2.2⟩
theorem rd_fr {I I1 : Ic} (h1 : I1 1 = I 1 ∧ I1 2 = I 2 ∧ I1 3 = I 3) (h2 : ∀ a, a ≠ 1 → a ≠ 2 → a ≠ 3 → a ≠ 6 → I1 a = I a) : ∀ a, a ≠ 6 → a ≠ 7 → I1 a = I a := fun a h6 _ => by
  by_cases e1 : a = 1
  · rw [e1]; exact h1.1
  · by_cases e2 : a = 2
    · rw [e2]; exact h1.2.1
    · by_cases e3 : a = 3
      · rw [e3]; exact h1.2.2
      · exact h2 a e1 e2 e3 h6
section QSO
variable {p : Program} {l : Launch} {e : Env} {Rm : Room} {s : State} {m : MethodId} {args : Array Value} {below : List Frame} {meth : Method} {c : Code} {H : Heap} {locs : List Loc} {cells slots : Nat} {Q : State → Prop} {cc : ByteArray} {pc : Nat} {ls : Array Slot} {rest st0 : List Value} {A : Nat → Prop} {H0 : Heap} {nL : Nat} {own : String} {G : Gx} {n : Nat} {ad : Nat → Nat} {I : Ic} {L : Lc} {R : Rc}
theorem q_rSO {y : MethodName} {bytes : ByteArray} {maxL mc ms index k : Nat} {ret : Option FieldType} {rm : Room} {Qc : Array Value → State → Outcome → State → Prop} {As : List Value} {C : String} (hC : CallFix p m c cc nL s args GW own) (hW : Wd G n ad I L R A H0 H locs s) (hm : mS y bytes maxL ret C k) (hl : Cond.methodLink own index y ∈ GW) (hM : Met l y (Cond.code y bytes maxL ret :: GW) rm (qPre G n ad H.size I L R As) Qc mc ms (qA n ad H.size)) (hrm : rm.cells = mc ∧ rm.slots = ms) (hR : rm.frames + 1 ≤ Rm.frames ∧ 8 + (maxL + 11) + rm.locals ≤ Rm.locals) (hf : cells + mc ≤ Rm.cells ∧ slots + ms ≤ Rm.slots) (hls : ls.size = nL) (hst : st0 = As.reverse ++ rest) (hk : As.length = k) (hrs : (rest.map fun v => v.category).sum ≤ 8) (hdg : decode cc pc = .ok (.invokestatic index, 3)) :
    va_Run p l e Rm s m args below meth c H locs cells slots mc ms (F0 m pc ls st0) rest (Qc As.toArray) (qA n ad H.size) :=
  va_runS (g := F0 m pc ls st0) hC hM ⟨callB_of k hC.2.2.2.2 (gI_of (gI_c hm.1.2.2)) rfl hrm.1 hrm.2 (by rw [hm.2.1]; exact hC.2.2.2.2 _ hm.1.2.1) (hC.2.2.2.2 _ hl) hm.2.2 hR, hC.2.2.2.2 _ hm.1.1⟩ ⟨qPre_blind, qPre_of hW _⟩ rfl hk hls hst (lv_room (ls := ls) (m := m) (rest := st0) hrs) hdg hf
end QSO
theorem PA_tr {n : Nat} {ad : Nat → Nat} {I I1 : Ic} {L L1 : Lc} {R R1 : Rc} {S : ST} {u : Sx} (h : PA n ad I1 L1 R1 S u) (h1 : ∀ a, 71 ≤ a → a < 83 → I1 a = I a ∧ L1 a = L a) : PA n ad I L R S u :=
  ⟨h.1, h.2.1, fun a h2 h3 => ⟨((h.2.2 a h2 h3).1).trans (h1 a h2 h3).1, ((h.2.2 a h2 h3).2).trans (h1 a h2 h3).2⟩⟩
