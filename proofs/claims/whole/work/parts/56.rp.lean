theorem lN_z {a : Nat} (h : lN a = lN 0) (ha : a < 2 ^ 64) : a = 0 := by
  have h1 : (lN a).toBitVec.toNat = (lN 0).toBitVec.toNat := by rw [h]
  rw [wb_tn ha, wb_tn (by decide)] at h1
  exact h1
theorem nI_n6 {i : Nat} (h : i < 2 ^ 30) : ¬ nI i = -6 := fun q => by
  have h1 := congrArg Int32.toInt q
  rw [nI_toInt (by omega), show (-6 : Int32).toInt = -6 by decide] at h1
  omega
theorem byt_8 {X i : Nat} (hX : X < 2 ^ 64) (h : ¬ byt X i = 0) : i < 8 := by
  refine Nat.lt_of_not_le (fun q => h (byt_0 (div8 hX) q))
theorem PdB_a {I I1 : Ic} {pn : Nat} {ch : Nat → Nat} {X k : Nat} (h : PdB I pn ch) (hk : CS X k) (hp : pn + k ≤ 80) (h6 : I1 71 6 = nI (pn + k)) (hJ : ∀ q, I1 76 q = if pn ≤ q ∧ q < pn + k then nI (byt X (k - 1 - (q - pn))) else I 76 q) : PdB I1 (pn + k) (chA ch pn X k) := by
  refine ⟨h6, hp, fun j hj => ?_, fun j => ?_⟩
  · rw [hJ]
    unfold chA
    by_cases e : pn ≤ j ∧ j < pn + k
    · rw [if_pos e, if_pos e]
    · rw [if_neg e, if_neg e]; exact h.2.2.1 j (by omega)
  · unfold chA
    by_cases e : pn ≤ j ∧ j < pn + k
    · rw [if_pos e]; exact hk.2.2.1 _ (by omega)
    · rw [if_neg e]; exact h.2.2.2 j
theorem PB_pd {n : Nat} {I I1 : Ic} {L : Lc} {R : Rc} {m : CM} {hc : Nat} {hi : Nat → CM} {sv : Nat → Option CM} {pn pn1 : Nat} {ch ch1 : Nat → Nat} (h : InvB n I R (m, hc, hi, sv, pn, ch)) (hI : ∀ a, a ≠ 71 → a ≠ 76 → I1 a = I a) (h71 : I1 71 2 = I 71 2) (hP : PdB I1 pn1 ch1) : PB n I L R (m, hc, hi, sv, pn1, ch1) I1 L :=
  ⟨⟨h.1, h.2.1, by rw [hI 72 (by decide) (by decide)]; exact h.2.2.1, HwB_fr h.2.2.2.1 h71 (hI 73 (by decide) (by decide)), SwB_fr h.2.2.2.2.1 (hI 74 (by decide) (by decide)) (hI 75 (by decide) (by decide)), hP⟩, fun a ha => ⟨hI a (by omega) (by omega), rfl⟩⟩
def bI (p : Prop) [Decidable p] : Int32 := if p then nI 1 else nI 0
theorem bI_t {p : Prop} [Decidable p] (h : p) : bI p = nI 1 := if_pos h
theorem bI_f {p : Prop} [Decidable p] (h : ¬ p) : bI p = nI 0 := if_neg h
theorem bI_1 {p : Prop} [Decidable p] (h : ¬ bI p = nI 0) : p := by
  by_cases e : p
  · exact e
  · exact absurd (bI_f e) h
theorem bI_0 {p : Prop} [Decidable p] (h : bI p = nI 0) : ¬ p := fun e => by
  rw [bI_t e] at h
  exact absurd h (by decide)
theorem dgt {c k : Nat} (hc : c < 1000) (hk : k < 1000) : (nI c - nI k).toInt = (c : Int) - k := pk_sub_toInt (by omega) (by omega)
section
variable {a b m p c : Nat} {w : Nat → Nat} {K : Nat} {ro : Nat → Nat}
theorem s1_2 (h : 48 ≤ c ∧ c ≤ 53) : stp (1, a, b, m, w, K, ro, p) c = some (2, c - 48, b, m, w, K, ro, p) := by
  unfold stp; dsimp only
  rw [if_neg (by decide), if_pos rfl, if_pos h]
theorem s1_n (h : ¬ (48 ≤ c ∧ c ≤ 53)) : stp (1, a, b, m, w, K, ro, p) c = none := by
  unfold stp; dsimp only
  rw [if_neg (by decide), if_pos rfl, if_neg h]
theorem s2_9 (h : 48 ≤ c ∧ c ≤ 51) : stp (2, a, b, m, w, K, ro, p) c = some (9, a, b, m, upN w (36 + a) (c - 48), K, ro, p) := by
  unfold stp; dsimp only
  rw [if_neg (by decide), if_neg (by decide), if_pos rfl, if_pos h]
theorem s2_n (h : ¬ (48 ≤ c ∧ c ≤ 51)) : stp (2, a, b, m, w, K, ro, p) c = none := by
  unfold stp; dsimp only
  rw [if_neg (by decide), if_neg (by decide), if_pos rfl, if_neg h]
theorem s4_5 (h : 48 ≤ c ∧ c ≤ 53) : stp (4, a, b, m, w, K, ro, p) c = some (5, a, c - 48, m, w, K, ro, p) := by
  unfold stp; dsimp only
  rw [if_neg (by decide), if_neg (by decide), if_neg (by decide), if_neg (by decide), if_pos rfl, if_pos h]
theorem s4_n (h : ¬ (48 ≤ c ∧ c ≤ 53)) : stp (4, a, b, m, w, K, ro, p) c = none := by
  unfold stp; dsimp only
  rw [if_neg (by decide), if_neg (by decide), if_neg (by decide), if_neg (by decide), if_pos rfl, if_neg h]
theorem s5_9 (h : 48 ≤ c ∧ c ≤ 51) (h2 : c = 48 ∨ ¬ barred a b) : stp (5, a, b, m, w, K, ro, p) c = some (9, a, b, m, upN w (a * 6 + b) (c - 48), K, ro, p) := by
  unfold barred at h2
  unfold stp; dsimp only
  rw [if_neg (by decide), if_neg (by decide), if_neg (by decide), if_neg (by decide), if_neg (by decide), if_pos rfl, if_pos (by omega)]
theorem s5_n (h : ¬ (48 ≤ c ∧ c ≤ 51) ∨ (c ≠ 48 ∧ barred a b)) : stp (5, a, b, m, w, K, ro, p) c = none := by
  unfold barred at h
  unfold stp; dsimp only
  rw [if_neg (by decide), if_neg (by decide), if_neg (by decide), if_neg (by decide), if_neg (by decide), if_pos rfl, if_neg (by omega)]
theorem s6_7 (h : 97 ≤ c ∧ c ≤ 100) : stp (6, a, b, m, w, K, ro, p) c = some (7, a, c - 97, m, w, K, ro, p) := by
  unfold stp; dsimp only
  rw [if_neg (by decide), if_neg (by decide), if_neg (by decide), if_neg (by decide), if_neg (by decide), if_neg (by decide), if_pos rfl, if_pos h]
theorem s6_n (h : ¬ (97 ≤ c ∧ c ≤ 100)) : stp (6, a, b, m, w, K, ro, p) c = none := by
  unfold stp; dsimp only
  rw [if_neg (by decide), if_neg (by decide), if_neg (by decide), if_neg (by decide), if_neg (by decide), if_neg (by decide), if_pos rfl, if_neg h]
theorem s7_9 (h : 48 ≤ c ∧ c ≤ 51) : stp (7, a, b, m, w, K, ro, p) c = some (9, a, b, m, upN w (42 + a * 4 + b) (c - 48), K, ro, p) := by
  unfold stp; dsimp only
  rw [if_neg (by decide), if_neg (by decide), if_neg (by decide), if_neg (by decide), if_neg (by decide), if_neg (by decide), if_neg (by decide), if_pos rfl, if_pos h]
theorem s7_n (h : ¬ (48 ≤ c ∧ c ≤ 51)) : stp (7, a, b, m, w, K, ro, p) c = none := by
  unfold stp; dsimp only
  rw [if_neg (by decide), if_neg (by decide), if_neg (by decide), if_neg (by decide), if_neg (by decide), if_neg (by decide), if_neg (by decide), if_pos rfl, if_neg h]
end
/-- the model's reader before sign i in state σ -/
def PX (b : Bool) (pn : Nat) (ch : Nat → Nat) (s0 : Sg) (I0 : Ic) (i : Nat) (σ : Sg) (I : Ic) : Prop :=
  stT ch s0 i = some σ ∧ i ≤ pn ∧ I 71 15 = nI σ.2.2.2.2.2.2.2 ∧ (if b = true then NwI (I 72) σ.2.2.2.2.1 σ.2.2.2.2.2.1 σ.2.2.2.2.2.2.1 else I 72 = I0 72) ∧ (∀ a, a ≠ 71 → a ≠ 72 → I a = I0 a) ∧ ∀ j, j ≠ 15 → I 71 j = I0 71 j
theorem PX_g {b : Bool} {pn : Nat} {ch : Nat → Nat} {s0 σ σ' : Sg} {I0 I J : Ic} {i : Nat} {x : Int32} (h : PX b pn ch s0 I0 i σ I) (hi : i < pn) (hs : stp σ (ch i) = some σ') (hJ : ∀ a, a ≠ 72 → J a = I a) (h72 : if b = true then NwI (J 72) σ'.2.2.2.2.1 σ'.2.2.2.2.2.1 σ'.2.2.2.2.2.2.1 else J 72 = I0 72) (hx : x = nI σ'.2.2.2.2.2.2.2) : PX b pn ch s0 I0 (i + 1) σ' (up2 J 71 15 x) := by
  refine ⟨by rw [stT_s h.1]; exact hs, hi, by rw [up2_at, if_pos ⟨rfl, rfl⟩]; exact hx, ?_, fun a h1 h2 => by rw [up2_ne h1, hJ a h2]; exact h.2.2.2.2.1 a h1 h2, fun j hj => by rw [up2_at, if_neg (fun q => hj q.2), hJ 71 (by decide)]; exact h.2.2.2.2.2 j hj⟩
  rw [up2_ne (by decide)]
  exact h72
def QX (q a b m K : Nat) (x3 x4 x5 : Int32) : Prop := (2 ≤ q → q ≤ 7 → x3 = nI a ∧ a < 6 ∧ (6 ≤ q → a < 4)) ∧ (q = 5 → x4 = nI b ∧ b < 6) ∧ (q = 7 → x4 = nI b ∧ b < 4) ∧ (q = 8 → x5 = nI m ∧ m ≤ 6 ∧ K = m) ∧ q ≤ 9
theorem QX_9 {a b m K : Nat} {x3 x4 x5 : Int32} : QX 9 a b m K x3 x4 x5 := ⟨fun _ h => absurd h (by decide), fun h => absurd h (by decide), fun h => absurd h (by decide), fun h => absurd h (by decide), by decide⟩
theorem QX_0 {a b m K : Nat} {x3 x4 x5 : Int32} : QX 0 a b m K x3 x4 x5 := ⟨fun h => absurd h (by decide), fun h => absurd h (by decide), fun h => absurd h (by decide), fun h => absurd h (by decide), by decide⟩
theorem QX_1 {a b m K : Nat} {x3 x4 x5 : Int32} : QX 1 a b m K x3 x4 x5 := ⟨fun h => absurd h (by decide), fun h => absurd h (by decide), fun h => absurd h (by decide), fun h => absurd h (by decide), by decide⟩
theorem QX_c {q a b m K : Nat} {x4 x5 : Int32} (ha : a < 6) (hq : q = 2 ∨ q = 3 ∨ q = 4 ∨ (q = 6 ∧ a < 4)) : QX q a b m K (nI a) x4 x5 := ⟨fun _ _ => ⟨rfl, ha, fun h => by omega⟩, fun h => by omega, fun h => by omega, fun h => by omega, by omega⟩
theorem QX_5 {a b m K : Nat} {x5 : Int32} (ha : a < 6) (hb : b < 6) : QX 5 a b m K (nI a) (nI b) x5 := ⟨fun _ _ => ⟨rfl, ha, fun h => absurd h (by decide)⟩, fun _ => ⟨rfl, hb⟩, fun h => absurd h (by decide), fun h => absurd h (by decide), by decide⟩
theorem QX_7 {a b m K : Nat} {x4 x5 : Int32} (ha : a < 4) (hb : b < 4) (h4 : x4 = nI b) : QX 7 a b m K (nI a) x4 x5 := ⟨fun _ _ => ⟨rfl, by omega, fun _ => ha⟩, fun h => absurd h (by decide), fun _ => ⟨h4, hb⟩, fun h => absurd h (by decide), by decide⟩
theorem QX_8 {a b m K : Nat} {x3 x4 : Int32} (hm : m ≤ 6) (hK : K = m) : QX 8 a b m K x3 x4 (nI m) := ⟨fun _ h => absurd h (by decide), fun h => absurd h (by decide), fun h => absurd h (by decide), fun _ => ⟨rfl, hm, hK⟩, by decide⟩
theorem rj_b {a : Nat} (h : a < 6) : rj (36 + a) = a := by unfold rj; rw [if_neg (by omega), if_pos (by omega)]; omega
theorem rj_s {a b : Nat} (ha : a < 6) (hb : b < 6) : rj (a * 6 + b) = 6 + 6 * a + b := by unfold rj; rw [if_pos (by omega)]; omega
theorem rj_l {a b : Nat} : rj (42 + a * 4 + b) = 42 + 4 * a + b := by unfold rj; rw [if_neg (by omega), if_neg (by omega)]; omega
theorem N_w {I : Ic} {w : Nat → Nat} {K : Nat} {ro : Nat → Nat} {i j u : Nat} (h : NwI (I 72) w K ro) (hj : rj i = j) (hi : i < 58) (hu : u ≤ 3) (hb : u = 0 ∨ (i ≠ 28 ∧ i ≠ 34 ∧ i ≠ 35)) : NwI (up2 I 72 j (nI u) 72) (upN w i u) K ro := by
  rw [← hj]
  exact up2_now (NwI_w h hi (Wok_up h.2.2.2.2.1 hu hb))
theorem N_0 {I : Ic} {w : Nat → Nat} {K : Nat} {ro : Nat → Nat} (h : NwI (I 72) w K ro) : NwI (up2 I 72 58 (nI 0) 72) w 0 ro :=
  ⟨fun k hk => by rw [up2_at, if_neg (fun q => by omega)]; exact h.1 k hk, by rw [up2_at, if_pos ⟨rfl, rfl⟩], fun j hj => absurd hj (by omega), by omega, h.2.2.2.2⟩
theorem N_8 {I : Ic} {w : Nat → Nat} {m u : Nat} {ro : Nat → Nat} (h : NwI (I 72) w m ro) (hm : m < 6) (hu : u < 4) : NwI (up2 (up2 I 72 (60 + m) (nI u)) 72 58 (nI (m + 1)) 72) w (m + 1) (upN ro m u) := by
  refine ⟨fun k hk => ?_, by rw [up2_at, if_pos ⟨rfl, rfl⟩], fun j hj => ?_, by omega, h.2.2.2.2.1, fun j => ?_⟩
  · rw [up2_at, if_neg (fun q => by omega), up2_at, if_neg (fun q => by omega)]; exact h.1 k hk
  · rw [up2_at, if_neg (fun q => by omega), up2_at]
    unfold upN
    by_cases e : j = m
    · rw [if_pos ⟨rfl, by omega⟩, if_pos e]
    · rw [if_neg (fun q => by omega), if_neg e]; exact h.2.2.1 j (by omega)
  · unfold upN
    split
    · exact hu
    · exact h.2.2.2.2.2 j
theorem FLx {pn : Nat} {ch : Nat → Nat} {s0 σ : Sg} {i : Nat} {b : Bool} {I0 I : Ic} (h : PX b pn ch s0 I0 i σ I) (hi : i < pn) (hs : stp σ (ch i) = none) : FL pn ch s0 i := ⟨σ, h.1, Or.inl ⟨hi, hs⟩⟩

set_option maxRecDepth 100000 in
set_option maxHeartbeats 4000000 in
theorem k_rput (l : Launch) (G : Gx) (n : Nat) (ad : Nat → Nat) (sz : Nat) (I : Ic) (L : Lc) (R : Rc) (X : Nat) (hX : X < 2 ^ 64) (w : Nat → Nat) (K : Nat) (ro : Nat → Nat) (hc : Nat) (hi : Nat → CM) (sv : Nat → Option CM) (pn : Nat) (ch : Nat → Nat) (hI0 : InvB n I R ((w, K, ro), hc, hi, sv, pn, ch)) : Met l yX6_put (Cond.code yX6_put cX6_put 7 (some .int) :: GW) ({ frames := 6, cells := 0, slots := 0, locals := 216 } : Room) (qPre G n ad sz I L R [.ref (ad 71), .long (lN (X))]) (qI1 G (qA n ad sz) n ad R (fun z I1 L1 => RR n I L R (aPut ((w, K, ro), hc, hi, sv, pn, ch) X) z I1 L1)) 0 0 (qA n ad sz) := by
  refine q_met (by decide) (Nat.le_of_ble_eq_true rfl) ?_
  intro p_ e_ s m_ below meth c_ hC hr hlk0 hin hsz hW ls hl
  subst hsz
  have hC : CallFix p_ m_ c_ cX6_put 7 s ([.ref (ad 71), .long (lN (X))] : List Value).toArray GW "CoinRowsModel" := hC
  have hx := hC.1
  have hb := hC.2.1
  have hn : 83 ≤ n := hI0.1
  have hlk : LkOK n R := hI0.2.1
  have hN : NwI (I 72) w K ro := hI0.2.2.1
  have hH : HwB I hc hi := hI0.2.2.2.1
  have hSw : SwB I sv := hI0.2.2.2.2.1
  have hPd : PdB I pn ch := hI0.2.2.2.2.2
  have hh1 := hH.1
  have hh6 := hH.2.1
  have hp80 := hPd.2.1
  have hk6 : K ≤ 6 := hN.2.2.2.1
  have hw : Wok w := hN.2.2.2.2.1
  have hw3 : ∀ i, w i ≤ 3 := hw.1
  have hr4 : ∀ j, ro j < 4 := hN.2.2.2.2.2
  have hl : lv_has ls 7 [(0, .ref (ad 71)), (1, .long (lN (X)))] := hl
  refine q_ic 0 hx hb dX6_put_0 (by decide) ?_
  refine lv_istore_n (lv' := [(3, .int (nI 0)), (0, .ref (ad 71)), (1, .long (lN (X)))]) hx hb dX6_put_1 rfl hl (by decide) rfl (fun ls hl => ?_)
  refine lv_lload_n hx hb dX6_put_2 rfl (lv_at hl 2 rfl) ?_
  refine q_top (v2 := .long (lN (X / 256 ^ 0))) (by rw [Nat.pow_zero, Nat.div_one]) ?_
  refine lv_lstore (lv' := [(4, .long (lN (X / 256 ^ 0))), (3, .int (nI 0)), (0, .ref (ad 71)), (1, .long (lN (X)))]) hx hb dX6_put_3 hl (by decide) rfl (fun ls hl => ?_)
  have lp_5 : ∀ (fu_5 : Nat) (e1 : Nat), 8 - e1 < fu_5 → (e1 ≤ 8) → (∀ j, j < e1 → 33 ≤ byt X j ∧ byt X j ≤ 126) → ∀ (H : Heap) (locs : List Loc), Wd G n ad I L R (qA n ad s.heap.size) s.heap H locs s → ∀ ls : Array Slot, lv_has ls 7 [(0, .ref (ad 71)), (1, .long (lN (X))), (3, .int (nI (e1))), (4, .long (lN (X / 256 ^ e1)))] → W p_ l e_ ({ frames := 6, cells := 0, slots := 0, locals := 216 } : Room) s m_ ([.ref (ad 71), .long (lN (X))] : List Value).toArray below meth c_ H locs 0 0 (MQ below (qI1 G (qA n ad s.heap.size) n ad R (fun z I1 L1 => RR n I L R (aPut ((w, K, ro), hc, hi, sv, pn, ch) X) z I1 L1)) ([.ref (ad 71), .long (lN (X))] : List Value).toArray s 0 0 (qA n ad s.heap.size)) (F0 m_ 5 ls []) := by
    intro fu_5
    induction fu_5 with
    | zero =>
      intro e1 hm; exact absurd hm (Nat.not_lt_zero _)
    | succ fu_5 ih_5 =>
      intro e1 hm_5 he9 hg H locs hW ls hl
      have hg0 : ∀ j, j < e1 → byt X j ≠ 0 := fun j hj => by have h9 := hg j hj; omega
      refine lv_lload hx hb dX6_put_5 (lv_at hl 3 rfl) ?_
      refine lv_ldc2 (v := lN 255) hx hb hC.2.2.2.1 (hC.2.2.2.2 _ gw_723) dX6_put_7 ?_
      refine lv_land hx hb dX6_put_10 ?_
      refine q_top (v2 := .long (lN (byt X e1))) (by rw [lN_m255 (div64 hX)]; rfl) ?_
      refine q_lc 0 hx hb dX6_put_11 (by decide) ?_
      refine q_lcmp hx hb dX6_put_12 ?_
      refine q_leq (tgt := 49) hx hb dX6_put_13 (by decide) (Nat.lt_trans (byt_256 X e1) (by decide)) (by decide) (fun c_13 => ?_) (fun c_13 => ?_)
      ·
        have hz : byt X e1 = 0 := c_13
        refine lv_lload hx hb dX6_put_49 (lv_at hl 3 rfl) ?_
        refine q_lc 0 hx hb dX6_put_51 (by decide) ?_
        refine q_lcmp hx hb dX6_put_52 ?_
        refine q_Lne (tgt := 60) hx hb dX6_put_53 (by decide) (fun c_53 => ?_) (fun c_53 => ?_)
        ·
          have hne : X / 256 ^ e1 ≠ 0 := fun q9 => c_53 (by rw [q9])
          refine lv_bipush (v := -2) hx hb dX6_put_60 (by decide) ?_
          exact q_iret1 hC hW hr hlk0 (RR_i (a' := (-2, ((w, K, ro), hc, hi, sv, pn, ch))) (by simp only [aPut, cs_none (CS_bad hg0 (show ¬ (33 ≤ byt X e1 ∧ byt X e1 ≤ 126) by omega) (Or.inl hne))]) ⟨rfl, PB_0 hI0⟩) dX6_put_62
        ·
          have hez : X / 256 ^ e1 = 0 := lN_z c_53 (div64 hX)
          refine lv_iload_n hx hb dX6_put_56 rfl (lv_at hl 2 rfl) ?_
          refine q_ine (tgt := 63) hx hb dX6_put_57 (by decide) (by first | omega | exact Nat.lt_of_le_of_lt (hw3 _) (by decide)) (fun c_57 => ?_) (fun c_57 => ?_)
          ·
            have hk : CS X e1 := ⟨by omega, by omega, hg, hez⟩
            refine lv_aload_n hx hb dX6_put_63 rfl (lv_at hl 0 rfl) ?_
            refine g_6_6 (x := 71) hC hW (by omega) kd_71 gw_489 dX6_put_64 ?_
            refine q_top (v2 := .int (nI (pn))) (congrArg _ hPd.1) ?_
            refine lv_iload_n hx hb dX6_put_67 rfl (lv_at hl 2 rfl) ?_
            refine q_iadd hx hb dX6_put_68 ?_
            refine q_bp 80 hx hb dX6_put_69 (by decide) ?_
            refine q_cle (tgt := 77) hx hb dX6_put_71 (by decide) (by first | omega | exact Nat.lt_of_le_of_lt (hw3 _) (by decide)) (by first | omega | exact Nat.lt_of_le_of_lt (hw3 _) (by decide)) (fun c_71 => ?_) (fun c_71 => ?_)
            ·
              refine lv_lload_n hx hb dX6_put_77 rfl (lv_at hl 1 rfl) ?_
              refine q_top (v2 := .long (lN (X / 256 ^ (e1 - e1)))) (by rw [Nat.sub_self, Nat.pow_zero, Nat.div_one]) ?_
              refine lv_lstore (lv' := [(4, .long (lN (X / 256 ^ (e1 - e1)))), (0, .ref (ad 71)), (1, .long (lN (X))), (3, .int (nI (e1)))]) hx hb dX6_put_78 hl (by decide) rfl (fun ls hl => ?_)
              refine lv_iload_n hx hb dX6_put_80 rfl (lv_at hl 3 rfl) ?_
              refine q_ic 1 hx hb dX6_put_81 (by decide) ?_
              refine lv_isub hx hb dX6_put_82 ?_
              refine lv_istore (lv' := [(6, .int (nI e1 - nI 1)), (4, .long (lN (X / 256 ^ (e1 - e1)))), (0, .ref (ad 71)), (1, .long (lN (X))), (3, .int (nI (e1)))]) hx hb dX6_put_83 hl (by decide) rfl (fun ls hl => ?_)
              have lp_85 : ∀ (fu_85 : Nat) (d : Nat) (I1 : Ic), d < fu_85 → (d ≤ e1) → (∀ q, I1 76 q = if pn + d ≤ q ∧ q < pn + e1 then nI (byt X (e1 - 1 - (q - pn))) else I 76 q) → (∀ a, a ≠ 76 → I1 a = I a) → ∀ (H : Heap) (locs : List Loc), Wd G n ad I1 L R (qA n ad s.heap.size) s.heap H locs s → ∀ ls : Array Slot, lv_has ls 7 [(0, .ref (ad 71)), (3, .int (nI (e1))), (4, .long (lN (X / 256 ^ (e1 - d)))), (6, .int (nI d - nI 1))] → W p_ l e_ ({ frames := 6, cells := 0, slots := 0, locals := 216 } : Room) s m_ ([.ref (ad 71), .long (lN (X))] : List Value).toArray below meth c_ H locs 0 0 (MQ below (qI1 G (qA n ad s.heap.size) n ad R (fun z I1 L1 => RR n I L R (aPut ((w, K, ro), hc, hi, sv, pn, ch) X) z I1 L1)) ([.ref (ad 71), .long (lN (X))] : List Value).toArray s 0 0 (qA n ad s.heap.size)) (F0 m_ 85 ls []) := by
                intro fu_85
                induction fu_85 with
                | zero =>
                  intro d I1 hm; exact absurd hm (Nat.not_lt_zero _)
                | succ fu_85 ih_85 =>
                  intro d I1 hm_85 hd hJ hJ2 H locs hW ls hl
                  rcases Nat.eq_zero_or_pos d with hd0 | hd0
                  ·
                    subst hd0
                    have hl : lv_has ls 7 [(0, .ref (ad 71)), (3, .int (nI (e1))), (4, .long (lN (X / 256 ^ (e1 - 0)))), (6, .int (nI 0 - nI 1))] := hl
                    have hl : lv_has ls 7 [(0, .ref (ad 71)), (3, .int (nI (e1))), (4, .long (lN (X / 256 ^ (e1 - 0)))), (6, .int (-1))] := by rw [show (-1 : Int32) = nI 0 - nI 1 by decide]; exact hl
                    refine lv_iload hx hb dX6_put_85 (lv_at hl 3 rfl) ?_
                    refine lv_if_lt (tgt := 122) hx hb dX6_put_87 (by decide) (fun c_87 => ?_) (fun c_87 => absurd c_87 (by decide))
                    refine lv_aload_n hx hb dX6_put_122 rfl (lv_at hl 0 rfl) ?_
                    refine lv_dup hx hb dX6_put_123 rfl ?_
                    refine g_6_6 (x := 71) hC hW (by omega) kd_71 gw_489 dX6_put_124 ?_
                    refine q_top (v2 := .int (nI (pn))) (congrArg _ ((congrFun (hJ2 71 (by decide)) 6).trans hPd.1)) ?_
                    refine lv_iload_n hx hb dX6_put_127 rfl (lv_at hl 1 rfl) ?_
                    refine q_iadd hx hb dX6_put_128 ?_
                    refine p_6_6 (x := 71) (v := nI (pn + e1)) hC hW (by omega) kd_71 gw_489 dX6_put_129 (fun H locs hW => ?_)
                    refine lv_aload_n hx hb dX6_put_132 rfl (lv_at hl 0 rfl) ?_
                    refine g_6_6 (x := 71) hC hW (by omega) kd_71 gw_489 dX6_put_133 ?_
                    refine q_top (v2 := .int (nI (pn + e1))) (congrArg _ (by rw [up2_at, if_pos ⟨rfl, rfl⟩])) ?_
                    exact q_iret1 hC hW hr hlk0 (RR_i (a' := (nI (pn + e1), ((w, K, ro), hc, hi, sv, pn + e1, chA ch pn X e1))) (by simp only [aPut, cs_some hk, if_neg (show ¬ 80 < pn + e1 by omega)]) ⟨rfl, PB_pd hI0 (fun a h1 h6 => by rw [up2_ne h1]; exact hJ2 a h6) (by rw [up2_at, if_neg (by decide), hJ2 71 (by decide)]) (PdB_a hPd hk (by omega) (by rw [up2_at, if_pos ⟨rfl, rfl⟩]) (fun q => by rw [up2_ne (by decide)]; exact hJ q))⟩) dX6_put_136
                  ·
                    obtain ⟨v, rfl⟩ : ∃ v, d = v + 1 := ⟨d - 1, by omega⟩
                    have hl : lv_has ls 7 [(0, .ref (ad 71)), (3, .int (nI (e1))), (4, .long (lN (X / 256 ^ (e1 - (v + 1))))), (6, .int (nI (v + 1) - nI 1))] := hl
                    have hl : lv_has ls 7 [(0, .ref (ad 71)), (3, .int (nI (e1))), (4, .long (lN (X / 256 ^ (e1 - (v + 1))))), (6, .int (nI (v)))] := by rw [show nI v = nI (v + 1) - nI 1 by rw [pk_sub (by omega)]; rfl]; exact hl
                    refine lv_iload hx hb dX6_put_85 (lv_at hl 3 rfl) ?_
                    refine lv_if_lt (tgt := 122) hx hb dX6_put_87 (by decide) (fun c_87 => absurd c_87 (nI_pos (by omega))) (fun c_87 => ?_)
                    refine lv_aload_n hx hb dX6_put_90 rfl (lv_at hl 0 rfl) ?_
                    refine g_6_5 (x := 71) (y := 76) hC hW (by omega) kd_71 gw_488 (hlk 71 5 76 (by omega) rfl) dX6_put_91 ?_
                    refine lv_aload_n hx hb dX6_put_94 rfl (lv_at hl 0 rfl) ?_
                    refine g_6_6 (x := 71) hC hW (by omega) kd_71 gw_489 dX6_put_95 ?_
                    refine q_top (v2 := .int (nI (pn))) (congrArg _ ((congrFun (hJ2 71 (by decide)) 6).trans hPd.1)) ?_
                    refine lv_iload hx hb dX6_put_98 (lv_at hl 3 rfl) ?_
                    refine q_iadd hx hb dX6_put_100 ?_
                    refine lv_lload hx hb dX6_put_101 (lv_at hl 2 rfl) ?_
                    refine lv_ldc2 (v := lN 255) hx hb hC.2.2.2.1 (hC.2.2.2.2 _ gw_723) dX6_put_103 ?_
                    refine lv_land hx hb dX6_put_106 ?_
                    refine q_top (v2 := .long (lN (byt X (e1 - (v + 1))))) (by rw [lN_m255 (div64 hX)]; rfl) ?_
                    refine q_l2i hx hb dX6_put_107 ?_
                    refine q_iast (x := 76) (i := pn + v) (v := nI (byt X (e1 - (v + 1)))) hC hW (by omega) kd_76 (by omega) dX6_put_108 (fun H locs hW => ?_)
                    refine lv_lload hx hb dX6_put_109 (lv_at hl 2 rfl) ?_
                    refine q_bp 8 hx hb dX6_put_111 (by decide) ?_
                    refine lv_lushr (v := ((lN (X / 256 ^ (e1 - (v + 1)))).toUInt64 >>> ((nI 8).toInt64.toUInt64 &&& Int64.toUInt64 63)).toInt64) hx hb dX6_put_113 rfl ?_
                    refine q_top (v2 := .long (lN (X / 256 ^ (e1 - v)))) (by rw [sh_8 hX, show e1 - (v + 1) + 1 = e1 - v by omega]) ?_
                    refine lv_lstore (lv' := [(4, .long (lN (X / 256 ^ (e1 - v)))), (0, .ref (ad 71)), (3, .int (nI (e1))), (6, .int (nI (v)))]) hx hb dX6_put_114 hl (by decide) rfl (fun ls hl => ?_)
                    refine lv_iinc (v := nI v - nI 1) (lv' := [(6, .int (nI v - nI 1)), (4, .long (lN (X / 256 ^ (e1 - v)))), (0, .ref (ad 71)), (3, .int (nI (e1)))]) hx hb dX6_put_116 hl (k := 3) rfl (inc_m1 _) (by decide) rfl (fun ls hl => ?_)
                    refine lv_goto (tgt := 85) hx hb dX6_put_119 (by decide) ?_
                    exact ih_85 v (up2 I1 76 (pn + v) (nI (byt X (e1 - (v + 1))))) (by omega) (by omega) (fun q => by rw [up2_at]; by_cases e : q = pn + v; (rw [if_pos ⟨rfl, e⟩, if_pos (by omega), show e1 - 1 - (q - pn) = e1 - (v + 1) by omega]); rw [if_neg (fun x => e x.2), hJ]; by_cases e2 : pn + (v + 1) ≤ q ∧ q < pn + e1; (rw [if_pos e2, if_pos (by omega)]); rw [if_neg e2, if_neg (by omega)]) (fun a ha => by rw [up2_ne ha]; exact hJ2 a ha) _ _ hW _ (lv_sub hl [2, 3, 1, 0] rfl)
              exact lp_85 (e1 + 1) e1 I (by omega) (by omega) (fun q => by rw [if_neg (by omega)]) (fun _ _ => rfl) _ _ hW _ (lv_sub hl [2, 4, 1, 0] rfl)
            ·
              refine lv_bipush (v := -4) hx hb dX6_put_74 (by decide) ?_
              exact q_iret1 hC hW hr hlk0 (RR_i (a' := (-4, ((w, K, ro), hc, hi, sv, pn, ch))) (by simp only [aPut, cs_some hk, if_pos (show 80 < pn + e1 by omega)]) ⟨rfl, PB_0 hI0⟩) dX6_put_76
          ·
            refine lv_bipush (v := -2) hx hb dX6_put_60 (by decide) ?_
            exact q_iret1 hC hW hr hlk0 (RR_i (a' := (-2, ((w, K, ro), hc, hi, sv, pn, ch))) (by simp only [aPut, cs_none (CS_bad hg0 (show ¬ (33 ≤ byt X e1 ∧ byt X e1 ≤ 126) by omega) (Or.inr (show e1 = 0 by omega)))]) ⟨rfl, PB_0 hI0⟩) dX6_put_62
      ·
        have he8 : e1 < 8 := byt_8 hX c_13
        refine lv_lload hx hb dX6_put_16 (lv_at hl 3 rfl) ?_
        refine lv_ldc2 (v := lN 255) hx hb hC.2.2.2.1 (hC.2.2.2.2 _ gw_723) dX6_put_18 ?_
        refine lv_land hx hb dX6_put_21 ?_
        refine q_top (v2 := .long (lN (byt X e1))) (by rw [lN_m255 (div64 hX)]; rfl) ?_
        refine q_l2i hx hb dX6_put_22 ?_
        refine q_bp 33 hx hb dX6_put_23 (by decide) ?_
        refine q_bp 126 hx hb dX6_put_25 (by decide) ?_
        refine q_kI0 (q_rS (As := [.int (nI (byt X e1)), .int (nI 33), .int (nI 126)]) (rest := []) hC hW mw_X6_in gw_537 (k_in l G n ad H.size I L R _ _ _) ⟨rfl, rfl⟩ ⟨Nat.le_of_ble_eq_true rfl, Nat.le_of_ble_eq_true rfl⟩ ⟨(Nat.le_of_ble_eq_true rfl), (Nat.le_of_ble_eq_true rfl)⟩ hl.1 rfl rfl (Nat.le_of_ble_eq_true rfl) dX6_put_27) hW (fun r_27 H locs hp hW => ?_)
        rw [show (nI 33).toInt = 33 by decide, show (nI 126).toInt = 126 by decide, nI_toInt (show byt X e1 < 2 ^ 31 from Nat.lt_trans (byt_256 X e1) (by decide))] at hp
        rcases hp with ⟨rfl, hb1_27, hb2_27⟩ | ⟨rfl, hb1_27⟩
        ·
          refine q_ine (tgt := 36) hx hb dX6_put_30 (by decide) (by first | omega | exact Nat.lt_of_le_of_lt (hw3 _) (by decide)) (fun c_30 => ?_) (fun c_30 => absurd c_30 (by decide))
          refine q_iinc (z2 := e1 + 1) (lv' := [(3, .int (nI (e1 + 1))), (0, .ref (ad 71)), (1, .long (lN (X))), (4, .long (lN (X / 256 ^ e1)))]) hx hb dX6_put_36 hl (k := 2) rfl (inc_up _ 1 (by decide)) (by decide) rfl (fun ls hl => ?_)
          refine lv_lload hx hb dX6_put_39 (lv_at hl 3 rfl) ?_
          refine q_bp 8 hx hb dX6_put_41 (by decide) ?_
          refine lv_lushr (v := ((lN (X / 256 ^ e1)).toUInt64 >>> ((nI 8).toInt64.toUInt64 &&& Int64.toUInt64 63)).toInt64) hx hb dX6_put_43 rfl ?_
          refine q_top (v2 := .long (lN (X / 256 ^ (e1 + 1)))) (by rw [sh_8 hX]) ?_
          refine lv_lstore (lv' := [(4, .long (lN (X / 256 ^ (e1 + 1)))), (3, .int (nI (e1 + 1))), (0, .ref (ad 71)), (1, .long (lN (X)))]) hx hb dX6_put_44 hl (by decide) rfl (fun ls hl => ?_)
          refine lv_goto (tgt := 5) hx hb dX6_put_46 (by decide) ?_
          exact ih_5 (e1 + 1) (by omega) (by omega) (fun j hj => by by_cases e9 : j = e1; (subst e9; exact ⟨by omega, by omega⟩); exact hg j (by omega)) _ _ hW _ (lv_sub hl [2, 3, 1, 0] rfl)
        ·
          refine q_ine (tgt := 36) hx hb dX6_put_30 (by decide) (by first | omega | exact Nat.lt_of_le_of_lt (hw3 _) (by decide)) (fun c_30 => absurd c_30 (by decide)) (fun c_30 => ?_)
          refine lv_bipush (v := -2) hx hb dX6_put_33 (by decide) ?_
          exact q_iret1 hC hW hr hlk0 (RR_i (a' := (-2, ((w, K, ro), hc, hi, sv, pn, ch))) (by simp only [aPut, cs_none (CS_bad hg0 (show ¬ (33 ≤ byt X e1 ∧ byt X e1 ≤ 126) by omega) (Or.inl (byt_ne c_13)))]) ⟨rfl, PB_0 hI0⟩) dX6_put_35
  exact lp_5 (8 + 1) 0 (by omega) (by omega) (fun j hj => absurd hj (by omega)) _ _ hW _ (lv_sub hl [2, 3, 1, 0] rfl)
