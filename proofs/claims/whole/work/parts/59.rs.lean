/-- the list that is laid in the model's cells: s places of it; m is left -/
def FJ (w r : Nat → Nat) (K : Nat) (l m : List Nat) (I0 : Ic) (L0 : Lc) (s d f : Nat) (I : Ic) (L : Lc) : Prop :=
  (∃ (dn : List Nat) (P : Nat), l = dn ++ m ∧ dn.length = s ∧ (∀ j, j < s → I 81 j = nI (dn.getD j 0)) ∧ L 71 13 = lN P ∧ P * prN w r K d f m = prN w r K 0 6 l) ∧
  I 71 12 = nI s ∧ (∀ a, a ≠ 71 → a ≠ 81 → I a = I0 a) ∧ (∀ j, j ≠ 12 → I 71 j = I0 71 j) ∧ (∀ a, a ≠ 71 → L a = L0 a)
def FoB (l : List Nat) (P : Nat) (I : Ic) (L : Lc) : Prop := I 71 12 = nI l.length ∧ (∀ j, j < l.length → I 81 j = nI (l.getD j 0)) ∧ L 71 13 = lN P ∧ l.length ≤ 18
def NJ (K s d f : Nat) : Prop := s + mu K d f ≤ 3 * K ∧ d ≤ K ∧ f ≤ 6
theorem NJ_lt {K s d f : Nat} (h : NJ K s d f) (hK : K ≤ 6) (hd : d < K) : s < 18 := by
  have h7 := h.1
  have : 1 ≤ mu K d f := by unfold mu; split; omega; split <;> omega
  omega
theorem NJ_s {w r : Nat → Nat} (hw : Wok w) {K s d f t : Nat} (h : NJ K s d f) (hd : d < K) (ht : t < 6) (hm : 0 < mv w K r f t d) : NJ K (s + 1) (nx t d) t := by
  have h7 := h.1
  have hmu := mu_step hw hd ht hm
  exact ⟨by omega, by unfold nx; split <;> omega, by omega⟩
theorem FJ_s {w r : Nat → Nat} {K : Nat} {l m : List Nat} {I0 I : Ic} {L0 L : Lc} {s d f t : Nat} (h : FJ w r K l (t :: m) I0 L0 s d f I L) (hs : s < 18) : FJ w r K l m I0 L0 (s + 1) (nx t d) t (up2 (up2 I 81 s (nI t)) 71 12 (nI (s + 1))) (up2 L 71 13 (L 71 13 * lN (mv w K r f t d))) := by
  obtain ⟨⟨dn, P, e1, e2, e3, e4, e5⟩, e6, e7, e8, e9⟩ := h
  refine ⟨⟨dn ++ [t], P * mv w K r f t d, ?_, ?_, fun j hj => ?_, ?_, ?_⟩, ?_, fun a h1 h2 => ?_, fun j hj => ?_, fun a ha => ?_⟩
  · rw [e1, List.append_assoc]; rfl
  · rw [List.length_append, e2]; rfl
  · rw [up2_ne (by decide), up2_at]
    by_cases ej : j = s
    · rw [if_pos ⟨rfl, ej⟩, ej, ← e2]; simp
    · rw [if_neg (by omega), e3 j (by omega)]
      simp [List.getElem?_append_left (show j < dn.length by omega)]
  · rw [up2_at, if_pos ⟨rfl, rfl⟩, e4, lN_mul]
  · rw [← e5]
    show P * mv w K r f t d * prN w r K (nx t d) t _ = P * (mv w K r f t d * prN w r K (nx t d) t _)
    rw [Nat.mul_assoc]
  · rw [up2_at, if_pos ⟨rfl, rfl⟩]
  · rw [up2_ne h1, up2_ne h2]; exact e7 a h1 h2
  · rw [up2_at, if_neg (fun q => hj q.2), up2_ne (by decide)]; exact e8 j hj
  · rw [up2_ne ha]; exact e9 a ha
theorem FJ_e {w r : Nat → Nat} {K : Nat} {l m : List Nat} {I0 I : Ic} {L0 L : Lc} {s d f : Nat} (h : FJ w r K l m I0 L0 s d f I L) (hm : m = []) (hs : s ≤ 18) : FoB l (prN w r K 0 6 l) I L := by
  subst hm
  obtain ⟨⟨dn, P, e1, e2, e3, e4, e5⟩, e6, e7, e8, e9⟩ := h
  rw [List.append_nil] at e1
  have e5' : P * 1 = prN w r K 0 6 l := e5
  refine ⟨by rw [e1, e2]; exact e6, fun j hj => ?_, by rw [← e5', Nat.mul_one]; exact e4, by rw [e1, e2]; omega⟩
  rw [e1] at hj ⊢
  exact e3 j (by omega)
theorem FJ_0 {w r : Nat → Nat} {K : Nat} {l : List Nat} {I0 I : Ic} {L0 L : Lc} (hI : I 71 12 = nI 0) (hL : L 71 13 = lN 1) (h1 : ∀ a, a ≠ 71 → a ≠ 81 → I a = I0 a) (h2 : ∀ j, j ≠ 12 → I 71 j = I0 71 j) (h3 : ∀ a, a ≠ 71 → L a = L0 a) : FJ w r K l l I0 L0 0 0 6 I L :=
  ⟨⟨[], 1, rfl, rfl, fun j hj => absurd hj (by omega), hL, Nat.one_mul _⟩, hI, h1, h2, h3⟩
theorem NJ_0 (K : Nat) : NJ K 0 0 6 := ⟨by unfold mu; simp, Nat.zero_le K, by decide⟩
theorem byN_e {w r : Nat → Nat} {K d f q u : Nat} (h : K ≤ d) : byN w r K u d f q = [] := by
  cases u with
  | zero => rfl
  | succ u => show (if d < K then _ else _) = _; rw [if_neg (by omega)]
theorem byM_e {w r : Nat → Nat} {K d f u : Nat} (h : K ≤ d) : byM w r K u d f = [] := by
  cases u with
  | zero => rfl
  | succ u => show (if d < K then _ else _) = _; rw [if_neg (by omega)]
theorem byN_s {w r : Nat → Nat} {K s d f q t : Nat} (hs : s < 18) (hd : d < K) (ht : t < 6) (h1 : fC w r K d f t ≤ q) (h2 : q < fC w r K d f (t + 1)) : byN w r K (19 - s) d f q = t :: byN w r K (19 - (s + 1)) (nx t d) t (q - fC w r K d f t) := by
  have hfu : 19 - s = (19 - (s + 1)) + 1 := by omega
  rw [hfu]
  show (if d < K then _ else _) = _
  rw [if_pos hd, chB_eq ht h1 (fun _ => h2)]
theorem byM_s {w r : Nat → Nat} {K s d f t : Nat} (hs : s < 18) (hd : d < K) (ht : t < 6) (h1 : ∀ i, i < t → ¬ okM w r K d f i = true) (h2 : okM w r K d f t = true) : byM w r K (19 - s) d f = t :: byM w r K (19 - (s + 1)) (nx t d) t := by
  have hfu : 19 - s = (19 - (s + 1)) + 1 := by omega
  rw [hfu]
  show (if d < K then _ else _) = _
  rw [if_pos hd, chM_eq ht h1 (fun _ => h2)]
theorem byN_rk {w r : Nat → Nat} (hw : Wok w) {K : Nat} (hK : K ≤ 6) : ∀ u d f, d ≤ K → f ≤ 6 → 0 < Cx' w K r (K - d) f → mu K d f < u → byN w r K u d f (rkN w r K d f (byM w r K u d f)) = byM w r K u d f
  | 0, _, _, _, _, _, h => absurd h (by omega)
  | u + 1, d, f, hd, hf, hC, hm => by
    by_cases hdK : d < K
    · have ho := (okM_iff.mp (chM_ok hw hdK hC)).1
      have ht := chM_lt w r K d f
      have h2 := rt_step ho
      have hms := mu_step (f := f) hw hdK ht h2.1
      have hC2 : 0 < Cx' w K r (K - nx (chM w r K d f) d) (chM w r K d f) := by rw [← h2.2]; exact ho
      have hnx : nx (chM w r K d f) d ≤ K := by unfold nx; split <;> omega
      have ih := byN_rk hw hK u (nx (chM w r K d f) d) (chM w r K d f) hnx (by omega) hC2 (by omega)
      have hrk := rk_in hw hK u (nx (chM w r K d f) d) (chM w r K d f) hnx (by omega) hC2 (by omega)
      have eM : byM w r K (u + 1) d f = chM w r K d f :: byM w r K u (nx (chM w r K d f) d) (chM w r K d f) := by
        show (if d < K then _ else _) = _
        rw [if_pos hdK]
      rw [eM]
      have eR : rkN w r K d f (chM w r K d f :: byM w r K u (nx (chM w r K d f) d) (chM w r K d f)) = fC w r K d f (chM w r K d f) + rkN w r K (nx (chM w r K d f) d) (chM w r K d f) (byM w r K u (nx (chM w r K d f) d) (chM w r K d f)) := rfl
      rw [eR]
      generalize hR : rkN w r K (nx (chM w r K d f) d) (chM w r K d f) (byM w r K u (nx (chM w r K d f) d) (chM w r K d f)) = R at *
      have e1 := fC_s w r K d f (chM w r K d f)
      have eB : chB w r K d f (fC w r K d f (chM w r K d f) + R) = chM w r K d f := chB_eq ht (by omega) (fun _ => by rw [e1, h2.2]; omega)
      show (if d < K then _ else _) = _
      rw [if_pos hdK, eB, Nat.add_sub_cancel_left, ih]
    · rw [byM_e (by omega), byN_e (by omega)]
theorem way_bst {w r : Nat → Nat} (hw : Wok w) {K : Nat} (hK : K ≤ 6) (hC : 0 < Cx' w K r K 6) : wayN w r K (rkN w r K 0 6 (wayM w r K)) = wayM w r K := byN_rk hw hK 19 0 6 (by omega) (by omega) hC (by unfold mu; simp; omega)
theorem prM {w r : Nat → Nat} (hw : Wok w) {K : Nat} (hK : K ≤ 6) : ∀ u d f, d ≤ K → f ≤ 6 → 0 < Cx' w K r (K - d) f → mu K d f < u → prN w r K d f (byM w r K u d f) = Mx' w K r (K - d) f
  | 0, _, _, _, _, _, h => absurd h (by omega)
  | u + 1, d, f, hd, hf, hC, hm => by
    by_cases hdK : d < K
    · have hok := okM_iff.mp (chM_ok hw hdK hC)
      have ho := hok.1
      have ht := chM_lt w r K d f
      have h2 := rt_step ho
      have hms := mu_step (f := f) hw hdK ht h2.1
      have hC2 : 0 < Cx' w K r (K - nx (chM w r K d f) d) (chM w r K d f) := by rw [← h2.2]; exact ho
      have hnx : nx (chM w r K d f) d ≤ K := by unfold nx; split <;> omega
      have ih := prM hw hK u (nx (chM w r K d f) d) (chM w r K d f) hnx (by omega) hC2 (by omega)
      have eM : byM w r K (u + 1) d f = chM w r K d f :: byM w r K u (nx (chM w r K d f) d) (chM w r K d f) := by
        show (if d < K then _ else _) = _
        rw [if_pos hdK]
      rw [eM]
      show mv w K r f (chM w r K d f) d * prN w r K (nx (chM w r K d f) d) (chM w r K d f) _ = _
      rw [ih, hok.2]
    · rw [byM_e (by omega)]
      rw [show K - d = 0 by omega] at hC ⊢
      have e1 : Cx' w K r 0 f = if f < 4 ∨ (f = 6 ∧ K = 0) then 1 else 0 := rfl
      have e2 : Mx' w K r 0 f = if f < 4 ∨ (f = 6 ∧ K = 0) then 1 else 0 := rfl
      rw [e1] at hC
      rw [e2]
      show 1 = _
      split at hC
      · rename_i h; rw [if_pos h]
      · omega
theorem prM_b {w r : Nat → Nat} (hw : Wok w) {K : Nat} (hK : K ≤ 6) (hC : 0 < Cx' w K r K 6) : prN w r K 0 6 (wayM w r K) = Mx' w K r K 6 := prM hw hK 19 0 6 (by omega) (by omega) hC (by unfold mu; simp; omega)
theorem fr_nx {K t d : Nat} (h : d < K) (hk : t < 4 ∧ nx t d = K ∨ ¬ (t < 4 ∧ nx t d = K)) : bI (nx t d = K) = bI (t < 4 ∧ nx t d = K) := by
  by_cases e : t < 4 ∧ nx t d = K
  · rw [bI_t e, bI_t e.2]
  · rw [bI_f e, bI_f (fun q => e ⟨by unfold nx at q; split at q; assumption; omega, q⟩)]
theorem rt_p {w r : Nat → Nat} {K d f t : Nat} (h : 0 < mv w K r f t d) : rtN w r K d f t = Cx' w K r (K - nx t d) t := by unfold rtN; rw [if_pos h]
theorem rt_n {w r : Nat → Nat} {K d f t : Nat} (h : mv w K r f t d = 0) : rtN w r K d f t = 0 := by unfold rtN; rw [if_neg (by omega)]

def fr6 (f : Nat) : Int32 := if f = 6 then -6 else nI f
set_option maxRecDepth 100000 in
set_option maxHeartbeats 4000000 in
theorem k_layWayQ (l : Launch) (G : Gx) (n : Nat) (ad : Nat → Nat) (sz : Nat) (I : Ic) (L : Lc) (R : Rc) (q0 : Nat) (w : Nat → Nat) (K : Nat) (ro : Nat → Nat) (hn : 83 ≤ n) (hlk : LkOK n R) (hN : NwI (I 72) w K ro) (hBh : BhI w ro K I L 0) (hq0 : q0 < Cx' w K ro K 6) : Met l yX6_layWay (Cond.code yX6_layWay cX6_layWay 14 (some .int) :: GW) ({ frames := 2, cells := 0, slots := 0, locals := 72 } : Room) (qPre G n ad sz I L R [.ref (ad 71), .int (nI (q0))]) (qI1 G (qA n ad sz) n ad R (fun z I1 L1 => FoB (wayN w ro K q0) (prN w ro K 0 6 (wayN w ro K q0)) I1 L1 ∧ (∀ a, a ≠ 71 → a ≠ 81 → I1 a = I a) ∧ (∀ j, j ≠ 12 → I1 71 j = I 71 j) ∧ (∀ a, a ≠ 71 → L1 a = L a))) 0 0 (qA n ad sz) := by
  refine q_met (by decide) (Nat.le_of_ble_eq_true rfl) ?_
  intro p_ e_ s m_ below meth c_ hC hr hlk0 hin hsz hW ls hl
  subst hsz
  have hC : CallFix p_ m_ c_ cX6_layWay 14 s ([.ref (ad 71), .int (nI (q0))] : List Value).toArray GW "CoinRowsModel" := hC
  have hx := hC.1
  have hb := hC.2.1
  have hk6 : K ≤ 6 := hN.2.2.2.1
  have hw : Wok w := hN.2.2.2.2.1
  have hw3 : ∀ i, w i ≤ 3 := hw.1
  have hr4 : ∀ j, ro j < 4 := hN.2.2.2.2.2
  have hC6 := Cx_b hw (r := ro) K K 6 hk6
  have hl : lv_has ls 14 [(0, .ref (ad 71)), (1, .int (nI (q0)))] := hl
  refine lv_iload_n hx hb dX6_layWay_0 rfl (lv_at hl 1 rfl) ?_
  refine lv_istore_n (lv' := [(2, .int (nI (q0))), (0, .ref (ad 71)), (1, .int (nI (q0)))]) hx hb dX6_layWay_1 rfl hl (by decide) rfl (fun ls hl => ?_)
  refine q_ic 0 hx hb dX6_layWay_2 (by decide) ?_
  refine lv_istore_n (lv' := [(3, .int (nI 0)), (2, .int (nI (q0))), (0, .ref (ad 71)), (1, .int (nI (q0)))]) hx hb dX6_layWay_3 rfl hl (by decide) rfl (fun ls hl => ?_)
  refine q_ic 0 hx hb dX6_layWay_4 (by decide) ?_
  refine lv_istore (lv' := [(4, .int (nI 0)), (3, .int (nI 0)), (2, .int (nI (q0))), (0, .ref (ad 71)), (1, .int (nI (q0)))]) hx hb dX6_layWay_5 hl (by decide) rfl (fun ls hl => ?_)
  refine lv_bipush (v := -6) hx hb dX6_layWay_7 (by decide) ?_
  refine q_top (v2 := .int (fr6 6)) rfl ?_
  refine lv_istore (lv' := [(5, .int (fr6 6)), (4, .int (nI 0)), (3, .int (nI 0)), (2, .int (nI (q0))), (0, .ref (ad 71)), (1, .int (nI (q0)))]) hx hb dX6_layWay_9 hl (by decide) rfl (fun ls hl => ?_)
  refine lv_aload_n hx hb dX6_layWay_11 rfl (lv_at hl 4 rfl) ?_
  refine q_ic 0 hx hb dX6_layWay_12 (by decide) ?_
  refine p_6_12 (x := 71) (v := nI 0) hC hW (by omega) kd_71 gw_495 dX6_layWay_13 (fun H locs hW => ?_)
  refine lv_aload_n hx hb dX6_layWay_16 rfl (lv_at hl 4 rfl) ?_
  refine q_lc 1 hx hb dX6_layWay_17 (by decide) ?_
  refine p_6_13 (x := 71) (v := lN 1) hC hW (by omega) kd_71 gw_496 dX6_layWay_18 (fun H locs hW => ?_)
  refine lv_aload_n hx hb dX6_layWay_21 rfl (lv_at hl 4 rfl) ?_
  refine g_6_0 (x := 71) (y := 72) hC hW (by omega) kd_71 gw_483 (hlk 71 0 72 (by omega) rfl) dX6_layWay_22 ?_
  refine q_bp 58 hx hb dX6_layWay_25 (by decide) ?_
  refine q_iald (x := 72) (i := 58) hC hW (by omega) kd_72 (by omega) dX6_layWay_27 ?_
  refine q_top (v2 := .int (nI (K))) (congrArg _ (by rw [up2_ne (by decide)]; exact hN.2.1)) ?_
  refine q_ine (tgt := 35) hx hb dX6_layWay_28 (by decide) (by first | omega | exact Nat.lt_of_le_of_lt (hw3 _) (by decide)) (fun c_28 => ?_) (fun c_28 => ?_)
  ·
    refine q_ic 0 hx hb dX6_layWay_35 (by decide) ?_
    refine q_top (v2 := .int (bI (0 = K))) (congrArg Value.int (bI_f (p := 0 = K) (by omega)).symm) ?_
    refine lv_istore (lv' := [(6, .int (bI (0 = K))), (5, .int (fr6 6)), (4, .int (nI 0)), (3, .int (nI 0)), (2, .int (nI (q0))), (0, .ref (ad 71)), (1, .int (nI (q0)))]) hx hb dX6_layWay_36 hl (by decide) rfl (fun ls hl => ?_)
    have lp_38 : ∀ (fu_38 : Nat) (s1 : Nat) (d : Nat) (f : Nat) (q : Nat) (a1 : Nat) (I1 : Ic) (L1 : Lc), 18 - s1 < fu_38 → (FJ w ro K (wayN w ro K q0) (byN w ro K (19 - s1) d f q) I L s1 d f I1 L1) → (NJ K s1 d f) → (q < Cx' w K ro (K - d) f) → ∀ (H : Heap) (locs : List Loc), Wd G n ad I1 L1 R (qA n ad s.heap.size) s.heap H locs s → ∀ ls : Array Slot, lv_has ls 14 [(0, .ref (ad 71)), (1, .int (nI (q0))), (2, .int (nI (q))), (3, .int (nI (a1))), (4, .int (nI (d))), (5, .int (fr6 f)), (6, .int (bI (d = K)))] → W p_ l e_ ({ frames := 2, cells := 0, slots := 0, locals := 72 } : Room) s m_ ([.ref (ad 71), .int (nI (q0))] : List Value).toArray below meth c_ H locs 0 0 (MQ below (qI1 G (qA n ad s.heap.size) n ad R (fun z I1 L1 => FoB (wayN w ro K q0) (prN w ro K 0 6 (wayN w ro K q0)) I1 L1 ∧ (∀ a, a ≠ 71 → a ≠ 81 → I1 a = I a) ∧ (∀ j, j ≠ 12 → I1 71 j = I 71 j) ∧ (∀ a, a ≠ 71 → L1 a = L a))) ([.ref (ad 71), .int (nI (q0))] : List Value).toArray s 0 0 (qA n ad s.heap.size)) (F0 m_ 38 ls []) := by
      intro fu_38
      induction fu_38 with
      | zero =>
        intro s1 d f q a1 I1 L1 hm; exact absurd hm (Nat.not_lt_zero _)
      | succ fu_38 ih_38 =>
        intro s1 d f q a1 I1 L1 hm_38 hF hNJ hqC H locs hW ls hl
        have hN1 : NwI (I1 72) w K ro := by rw [hF.2.2.1 72 (by decide) (by decide)]; exact hN
        have hB1 : BhI w ro K I1 L1 0 := Bh_g hBh (hF.2.2.1 79 (by decide) (by decide)) (hF.2.2.2.2 78 (by decide)) (hF.2.2.2.2 80 (by decide))
        rcases Nat.lt_or_ge f 6 with hf6 | hf6
        ·
          rw [show fr6 f = nI f from if_neg (by omega)] at hl
          refine lv_iload hx hb dX6_layWay_38 (lv_at hl 6 rfl) ?_
          refine lv_if_ne (tgt := 381) hx hb dX6_layWay_40 (by decide) (fun c_40 => ?_) (fun c_40 => ?_)
          ·
            have hdK : d = K := bI_1 (p := d = K) c_40
            refine lv_iload_n hx hb dX6_layWay_381 rfl (lv_at hl 3 rfl) ?_
            exact q_iret1 hC hW hr hlk0 ⟨FJ_e hF (byN_e (by omega)) (by have h9 := hNJ.1; omega), hF.2.2.1, hF.2.2.2.1, hF.2.2.2.2⟩ dX6_layWay_382
          ·
            have hdn : ¬ d = K := bI_0 (p := d = K) c_40
            have hdK : d < K := by have h9 := hNJ.2.1; omega
            have hs18 : s1 < 18 := NJ_lt hNJ hk6 hdK
            have hMf : fM w ro K d f 6 = Mx' w K ro (K - d) f := (Mx_f hw K d f hdK).symm
            have hCf : Cx' w K ro (K - d) f = fC w ro K d f 6 := Cx_f hw K d f hdK
            have hCb := Cx_b hw (r := ro) K (K - d) f (by omega)
            refine q_lc 0 hx hb dX6_layWay_43 (by decide) ?_
            refine lv_lstore (lv' := [(7, .long (lN 0)), (0, .ref (ad 71)), (1, .int (nI (q0))), (2, .int (nI (q))), (3, .int (nI (a1))), (4, .int (nI (d))), (5, .int (nI (f))), (6, .int (bI (d = K)))]) hx hb dX6_layWay_44 hl (by decide) rfl (fun ls hl => ?_)
            refine q_ic 0 hx hb dX6_layWay_46 (by decide) ?_
            refine lv_istore (lv' := [(9, .int (nI 0)), (7, .long (lN 0)), (0, .ref (ad 71)), (1, .int (nI (q0))), (2, .int (nI (q))), (3, .int (nI (a1))), (4, .int (nI (d))), (5, .int (nI (f))), (6, .int (bI (d = K)))]) hx hb dX6_layWay_47 hl (by decide) rfl (fun ls hl => ?_)
            have lp_49 : ∀ (fu_49 : Nat) (t1 : Nat), 6 - t1 < fu_49 → (t1 ≤ 6) → ∀ (H : Heap) (locs : List Loc), Wd G n ad I1 L1 R (qA n ad s.heap.size) s.heap H locs s → ∀ ls : Array Slot, lv_has ls 14 [(0, .ref (ad 71)), (1, .int (nI (q0))), (2, .int (nI (q))), (3, .int (nI (a1))), (4, .int (nI (d))), (5, .int (nI (f))), (7, .long (lN (fM w ro K d f t1))), (9, .int (nI (t1)))] → W p_ l e_ ({ frames := 2, cells := 0, slots := 0, locals := 72 } : Room) s m_ ([.ref (ad 71), .int (nI (q0))] : List Value).toArray below meth c_ H locs 0 0 (MQ below (qI1 G (qA n ad s.heap.size) n ad R (fun z I1 L1 => FoB (wayN w ro K q0) (prN w ro K 0 6 (wayN w ro K q0)) I1 L1 ∧ (∀ a, a ≠ 71 → a ≠ 81 → I1 a = I a) ∧ (∀ j, j ≠ 12 → I1 71 j = I 71 j) ∧ (∀ a, a ≠ 71 → L1 a = L a))) ([.ref (ad 71), .int (nI (q0))] : List Value).toArray s 0 0 (qA n ad s.heap.size)) (F0 m_ 49 ls []) := by
              intro fu_49
              induction fu_49 with
              | zero =>
                intro t1 hm; exact absurd hm (Nat.not_lt_zero _)
              | succ fu_49 ih_49 =>
                intro t1 hm_49 ht6 H locs hW ls hl
                refine lv_iload hx hb dX6_layWay_49 (lv_at hl 7 rfl) ?_
                refine q_bp 6 hx hb dX6_layWay_51 (by decide) ?_
                refine q_cge (tgt := 147) hx hb dX6_layWay_53 (by decide) (by first | omega | exact Nat.lt_of_le_of_lt (hw3 _) (by decide)) (by first | omega | exact Nat.lt_of_le_of_lt (hw3 _) (by decide)) (fun c_53 => ?_) (fun c_53 => ?_)
                ·
                  have e6 : t1 = 6 := by omega
                  subst e6
                  refine q_ic 0 hx hb dX6_layWay_147 (by decide) ?_
                  refine lv_istore (lv' := [(9, .int (nI 0)), (0, .ref (ad 71)), (1, .int (nI (q0))), (2, .int (nI (q))), (3, .int (nI (a1))), (4, .int (nI (d))), (5, .int (nI (f))), (7, .long (lN (fM w ro K d f 6)))]) hx hb dX6_layWay_148 hl (by decide) rfl (fun ls hl => ?_)
                  refine q_ic 0 hx hb dX6_layWay_150 (by decide) ?_
                  refine lv_istore (lv' := [(10, .int (nI 0)), (9, .int (nI 0)), (0, .ref (ad 71)), (1, .int (nI (q0))), (2, .int (nI (q))), (3, .int (nI (a1))), (4, .int (nI (d))), (5, .int (nI (f))), (7, .long (lN (fM w ro K d f 6)))]) hx hb dX6_layWay_151 hl (by decide) rfl (fun ls hl => ?_)
                  have lp_153 : ∀ (fu_153 : Nat) (t1 : Nat), 6 - t1 < fu_153 → (t1 ≤ 6) → (fC w ro K d f t1 ≤ q) → ∀ (H : Heap) (locs : List Loc), Wd G n ad I1 L1 R (qA n ad s.heap.size) s.heap H locs s → ∀ ls : Array Slot, lv_has ls 14 [(0, .ref (ad 71)), (1, .int (nI (q0))), (2, .int (nI (q - fC w ro K d f t1))), (3, .int (nI (a1 + fC w ro K d f t1))), (4, .int (nI (d))), (5, .int (nI (f))), (7, .long (lN (fM w ro K d f 6))), (9, .int (nI 0)), (10, .int (nI (t1)))] → W p_ l e_ ({ frames := 2, cells := 0, slots := 0, locals := 72 } : Room) s m_ ([.ref (ad 71), .int (nI (q0))] : List Value).toArray below meth c_ H locs 0 0 (MQ below (qI1 G (qA n ad s.heap.size) n ad R (fun z I1 L1 => FoB (wayN w ro K q0) (prN w ro K 0 6 (wayN w ro K q0)) I1 L1 ∧ (∀ a, a ≠ 71 → a ≠ 81 → I1 a = I a) ∧ (∀ j, j ≠ 12 → I1 71 j = I 71 j) ∧ (∀ a, a ≠ 71 → L1 a = L a))) ([.ref (ad 71), .int (nI (q0))] : List Value).toArray s 0 0 (qA n ad s.heap.size)) (F0 m_ 153 ls []) := by
                    intro fu_153
                    induction fu_153 with
                    | zero =>
                      intro t1 hm; exact absurd hm (Nat.not_lt_zero _)
                    | succ fu_153 ih_153 =>
                      intro t1 hm_153 ht6 hc H locs hW ls hl
                      refine lv_iload hx hb dX6_layWay_153 (lv_at hl 8 rfl) ?_
                      refine q_bp 6 hx hb dX6_layWay_155 (by decide) ?_
                      refine q_cge (tgt := 353) hx hb dX6_layWay_157 (by decide) (by first | omega | exact Nat.lt_of_le_of_lt (hw3 _) (by decide)) (by first | omega | exact Nat.lt_of_le_of_lt (hw3 _) (by decide)) (fun c_157 => absurd c_157 (fun q9 => by have e9 : fC w ro K d f t1 = fC w ro K d f 6 := (by rw [show t1 = 6 by omega]); omega)) (fun c_157 => ?_)
                      refine lv_iload hx hb dX6_layWay_160 (lv_at hl 7 rfl) ?_
                      refine q_ine (tgt := 353) hx hb dX6_layWay_162 (by decide) (by first | omega | exact Nat.lt_of_le_of_lt (hw3 _) (by decide)) (fun c_162 => absurd c_162 (by decide)) (fun c_162 => ?_)
                      refine lv_aload_n hx hb dX6_layWay_165 rfl (lv_at hl 0 rfl) ?_
                      refine lv_iload hx hb dX6_layWay_166 (lv_at hl 5 rfl) ?_
                      refine lv_if_ge (tgt := 181) hx hb dX6_layWay_168 (by decide) (fun c_168 => ?_) (fun c_168 => absurd (Int32.not_lt.mp (nI_pos (by omega))) c_168)
                      refine lv_aload_n hx hb dX6_layWay_181 rfl (lv_at hl 0 rfl) ?_
                      refine lv_iload hx hb dX6_layWay_182 (lv_at hl 5 rfl) ?_
                      refine lv_iload hx hb dX6_layWay_184 (lv_at hl 8 rfl) ?_
                      refine q_kI0 (q_rV (As := [.int (nI (f)), .int (nI (t1))]) (rest := [.ref (ad 71)]) (x := 71) hC hW mw_X6_step gw_586 (k_step l G n ad H.size I1 L1 R _ _ (by omega) (by omega) w K ro hn hlk hN1) (by omega) (ct_o6 kd_71) rfl ⟨rfl, rfl⟩ ⟨Nat.le_of_ble_eq_true rfl, Nat.le_of_ble_eq_true rfl⟩ ⟨(Nat.le_of_ble_eq_true rfl), (Nat.le_of_ble_eq_true rfl)⟩ hl.1 rfl rfl (Nat.le_of_ble_eq_true rfl) dX6_layWay_186) hW (fun r_186 H locs hp hW => ?_)
                      subst hp
                      refine lv_iload hx hb dX6_layWay_189 (lv_at hl 8 rfl) ?_
                      refine lv_iload hx hb dX6_layWay_191 (lv_at hl 4 rfl) ?_
                      refine q_kI0 (q_rV (As := [.int (nI (w (f * 6 + t1))), .int (nI (t1)), .int (nI (d))]) (rest := []) (x := 71) hC hW mw_X6_going gw_590 (k_going l G n ad H.size I1 L1 R _ _ _ (hw3 _) (by omega) (by omega) w K ro hn hlk hN1) (by omega) (ct_o6 kd_71) rfl ⟨rfl, rfl⟩ ⟨Nat.le_of_ble_eq_true rfl, Nat.le_of_ble_eq_true rfl⟩ ⟨(Nat.le_of_ble_eq_true rfl), (Nat.le_of_ble_eq_true rfl)⟩ hl.1 rfl rfl (Nat.le_of_ble_eq_true rfl) dX6_layWay_193) hW (fun r_193 H locs hp hW => ?_)
                      subst hp
                      refine q_top (v2 := .int (nI (mv w K ro f t1 d))) rfl ?_
                      have hm9 := mv_le hw K ro f t1 d
                      refine lv_istore (lv' := [(11, .int (nI (mv w K ro f t1 d))), (0, .ref (ad 71)), (1, .int (nI (q0))), (2, .int (nI (q - fC w ro K d f t1))), (3, .int (nI (a1 + fC w ro K d f t1))), (4, .int (nI (d))), (5, .int (nI (f))), (7, .long (lN (fM w ro K d f 6))), (9, .int (nI 0)), (10, .int (nI (t1)))]) hx hb dX6_layWay_196 hl (by decide) rfl (fun ls hl => ?_)
                      refine q_bp 7 hx hb dX6_layWay_198 (by decide) ?_
                      refine lv_iload hx hb dX6_layWay_200 (lv_at hl 9 rfl) ?_
                      refine q_imul hx hb dX6_layWay_202 ?_
                      refine lv_iload hx hb dX6_layWay_203 (lv_at hl 9 rfl) ?_
                      refine lv_iload hx hb dX6_layWay_205 (lv_at hl 5 rfl) ?_
                      refine q_kI0 (q_rS (As := [.int (nI (t1)), .int (nI (d))]) (rest := [.int (nI (7 * t1))]) hC hW mw_X6_toldThen gw_598 (k_toldThen l G n ad H.size I1 L1 R _ _ (by omega) (by omega)) ⟨rfl, rfl⟩ ⟨Nat.le_of_ble_eq_true rfl, Nat.le_of_ble_eq_true rfl⟩ ⟨(Nat.le_of_ble_eq_true rfl), (Nat.le_of_ble_eq_true rfl)⟩ hl.1 rfl rfl (Nat.le_of_ble_eq_true rfl) dX6_layWay_207) hW (fun r_207 H locs hp hW => ?_)
                      subst hp
                      refine q_iadd hx hb dX6_layWay_210 ?_
                      refine lv_istore (lv' := [(12, .int (nI ((7 * t1) + (nx t1 d)))), (11, .int (nI (mv w K ro f t1 d))), (0, .ref (ad 71)), (1, .int (nI (q0))), (2, .int (nI (q - fC w ro K d f t1))), (3, .int (nI (a1 + fC w ro K d f t1))), (4, .int (nI (d))), (5, .int (nI (f))), (7, .long (lN (fM w ro K d f 6))), (9, .int (nI 0)), (10, .int (nI (t1)))]) hx hb dX6_layWay_211 hl (by decide) rfl (fun ls hl => ?_)
                      refine lv_iload hx hb dX6_layWay_213 (lv_at hl 1 rfl) ?_
                      refine q_ile (tgt := 228) hx hb dX6_layWay_215 (by decide) (by first | omega | exact Nat.lt_of_le_of_lt (hw3 _) (by decide)) (fun c_215 => ?_) (fun c_215 => ?_)
                      ·
                        have hz1 : mv w K ro f t1 d = 0 := by omega
                        refine q_ic 0 hx hb dX6_layWay_228 (by decide) ?_
                        have hrb := rtN_b hw (r := ro) (K := K) (d := d) (f := f) (t := t1) hk6
                        refine q_top (v2 := .int (nI (rtN w ro K d f t1))) (by rw [rt_n hz1]) ?_
                        refine lv_istore (lv' := [(13, .int (nI (rtN w ro K d f t1))), (12, .int (nI ((7 * t1) + (nx t1 d)))), (11, .int (nI (mv w K ro f t1 d))), (0, .ref (ad 71)), (1, .int (nI (q0))), (2, .int (nI (q - fC w ro K d f t1))), (3, .int (nI (a1 + fC w ro K d f t1))), (4, .int (nI (d))), (5, .int (nI (f))), (7, .long (lN (fM w ro K d f 6))), (9, .int (nI 0)), (10, .int (nI (t1)))]) hx hb dX6_layWay_229 hl (by decide) rfl (fun ls hl => ?_)
                        refine lv_iload_n hx hb dX6_layWay_231 rfl (lv_at hl 4 rfl) ?_
                        refine lv_if_ge (tgt := 270) hx hb dX6_layWay_232 (by decide) (fun c_232 => ?_) (fun c_232 => absurd (Int32.not_lt.mp (nI_pos (by omega))) c_232)
                        refine lv_iload_n hx hb dX6_layWay_270 rfl (lv_at hl 5 rfl) ?_
                        refine lv_iload hx hb dX6_layWay_271 (lv_at hl 0 rfl) ?_
                        refine q_cge (tgt := 280) hx hb dX6_layWay_273 (by decide) (by first | omega | exact Nat.lt_of_le_of_lt (hw3 _) (by decide)) (by first | omega | exact Nat.lt_of_le_of_lt (hw3 _) (by decide)) (fun c_273 => ?_) (fun c_273 => ?_)
                        ·
                          refine q_ic 0 hx hb dX6_layWay_280 (by decide) ?_
                          refine lv_istore (lv' := [(9, .int (nI 0)), (13, .int (nI (rtN w ro K d f t1))), (12, .int (nI ((7 * t1) + (nx t1 d)))), (11, .int (nI (mv w K ro f t1 d))), (0, .ref (ad 71)), (1, .int (nI (q0))), (2, .int (nI (q - fC w ro K d f t1))), (3, .int (nI (a1 + fC w ro K d f t1))), (4, .int (nI (d))), (5, .int (nI (f))), (7, .long (lN (fM w ro K d f 6))), (10, .int (nI (t1)))]) hx hb dX6_layWay_281 hl (by decide) rfl (fun ls hl => ?_)
                          refine lv_iload hx hb dX6_layWay_283 (lv_at hl 0 rfl) ?_
                          refine q_ieq (tgt := 337) hx hb dX6_layWay_285 (by decide) (by first | omega | exact Nat.lt_of_le_of_lt (hw3 _) (by decide)) (fun c_285 => ?_) (fun c_285 => absurd c_285 (by decide))
                          refine lv_iload_n hx hb dX6_layWay_337 rfl (lv_at hl 6 rfl) ?_
                          refine lv_iload hx hb dX6_layWay_338 (lv_at hl 1 rfl) ?_
                          refine q_isub hx hb dX6_layWay_340 (by omega) ?_
                          refine q_top (v2 := .int (nI (q - fC w ro K d f (t1 + 1)))) (by rw [fC_s, Nat.sub_add_eq]) ?_
                          refine lv_istore_n (lv' := [(2, .int (nI (q - fC w ro K d f (t1 + 1)))), (9, .int (nI 0)), (13, .int (nI (rtN w ro K d f t1))), (12, .int (nI ((7 * t1) + (nx t1 d)))), (11, .int (nI (mv w K ro f t1 d))), (0, .ref (ad 71)), (1, .int (nI (q0))), (3, .int (nI (a1 + fC w ro K d f t1))), (4, .int (nI (d))), (5, .int (nI (f))), (7, .long (lN (fM w ro K d f 6))), (10, .int (nI (t1)))]) hx hb dX6_layWay_341 rfl hl (by decide) rfl (fun ls hl => ?_)
                          refine lv_iload_n hx hb dX6_layWay_342 rfl (lv_at hl 7 rfl) ?_
                          refine lv_iload hx hb dX6_layWay_343 (lv_at hl 2 rfl) ?_
                          refine q_iadd hx hb dX6_layWay_345 ?_
                          refine q_top (v2 := .int (nI (a1 + fC w ro K d f (t1 + 1)))) (by rw [fC_s, Nat.add_assoc]) ?_
                          refine lv_istore_n (lv' := [(3, .int (nI (a1 + fC w ro K d f (t1 + 1)))), (2, .int (nI (q - fC w ro K d f (t1 + 1)))), (9, .int (nI 0)), (13, .int (nI (rtN w ro K d f t1))), (12, .int (nI ((7 * t1) + (nx t1 d)))), (11, .int (nI (mv w K ro f t1 d))), (0, .ref (ad 71)), (1, .int (nI (q0))), (4, .int (nI (d))), (5, .int (nI (f))), (7, .long (lN (fM w ro K d f 6))), (10, .int (nI (t1)))]) hx hb dX6_layWay_346 rfl hl (by decide) rfl (fun ls hl => ?_)
                          refine q_iinc (z2 := t1 + 1) (lv' := [(10, .int (nI (t1 + 1))), (3, .int (nI (a1 + fC w ro K d f (t1 + 1)))), (2, .int (nI (q - fC w ro K d f (t1 + 1)))), (9, .int (nI 0)), (13, .int (nI (rtN w ro K d f t1))), (12, .int (nI ((7 * t1) + (nx t1 d)))), (11, .int (nI (mv w K ro f t1 d))), (0, .ref (ad 71)), (1, .int (nI (q0))), (4, .int (nI (d))), (5, .int (nI (f))), (7, .long (lN (fM w ro K d f 6)))]) hx hb dX6_layWay_347 hl (k := 11) rfl (inc_up _ 1 (by decide)) (by decide) rfl (fun ls hl => ?_)
                          refine lv_goto (tgt := 153) hx hb dX6_layWay_350 (by decide) ?_
                          exact ih_153 (t1 + 1) (by omega) (by omega) (by rw [fC_s]; omega) _ _ hW _ (lv_sub hl [7, 8, 2, 1, 9, 10, 11, 3, 0] rfl)
                        ·
                          refine q_ic 1 hx hb dX6_layWay_276 (by decide) ?_
                          refine lv_goto (tgt := 281) hx hb dX6_layWay_277 (by decide) ?_
                          have hq2 : q < fC w ro K d f (t1 + 1) := by rw [fC_s]; omega
                          have hp1 : 0 < mv w K ro f t1 d := (rt_step (by omega : 0 < rtN w ro K d f t1)).1
                          refine lv_istore (lv' := [(9, .int (nI 1)), (13, .int (nI (rtN w ro K d f t1))), (12, .int (nI ((7 * t1) + (nx t1 d)))), (11, .int (nI (mv w K ro f t1 d))), (0, .ref (ad 71)), (1, .int (nI (q0))), (2, .int (nI (q - fC w ro K d f t1))), (3, .int (nI (a1 + fC w ro K d f t1))), (4, .int (nI (d))), (5, .int (nI (f))), (7, .long (lN (fM w ro K d f 6))), (10, .int (nI (t1)))]) hx hb dX6_layWay_281 hl (by decide) rfl (fun ls hl => ?_)
                          refine lv_iload hx hb dX6_layWay_283 (lv_at hl 0 rfl) ?_
                          refine q_ieq (tgt := 337) hx hb dX6_layWay_285 (by decide) (by first | omega | exact Nat.lt_of_le_of_lt (hw3 _) (by decide)) (fun c_285 => absurd c_285 (by decide)) (fun c_285 => ?_)
                          refine lv_aload_n hx hb dX6_layWay_288 rfl (lv_at hl 4 rfl) ?_
                          refine g_6_11 (x := 71) (y := 81) hC hW (by omega) kd_71 gw_494 (hlk 71 11 81 (by omega) rfl) dX6_layWay_289 ?_
                          refine lv_aload_n hx hb dX6_layWay_292 rfl (lv_at hl 4 rfl) ?_
                          refine g_6_12 (x := 71) hC hW (by omega) kd_71 gw_495 dX6_layWay_293 ?_
                          refine q_top (v2 := .int (nI (s1))) (congrArg _ hF.2.1) ?_
                          refine lv_iload hx hb dX6_layWay_296 (lv_at hl 11 rfl) ?_
                          refine q_iast (x := 81) (i := s1) (v := nI t1) hC hW (by omega) kd_81 (by omega) dX6_layWay_298 (fun H locs hW => ?_)
                          refine lv_aload_n hx hb dX6_layWay_299 rfl (lv_at hl 4 rfl) ?_
                          refine lv_dup hx hb dX6_layWay_300 rfl ?_
                          refine g_6_12 (x := 71) hC hW (by omega) kd_71 gw_495 dX6_layWay_301 ?_
                          refine q_top (v2 := .int (nI (s1))) (congrArg _ (by rw [up2_ne (by decide)]; exact hF.2.1)) ?_
                          refine q_ic 1 hx hb dX6_layWay_304 (by decide) ?_
                          refine q_iadd hx hb dX6_layWay_305 ?_
                          refine p_6_12 (x := 71) (v := nI (s1 + 1)) hC hW (by omega) kd_71 gw_495 dX6_layWay_306 (fun H locs hW => ?_)
                          refine lv_aload_n hx hb dX6_layWay_309 rfl (lv_at hl 4 rfl) ?_
                          refine lv_dup hx hb dX6_layWay_310 rfl ?_
                          refine g_6_13 (x := 71) hC hW (by omega) kd_71 gw_496 dX6_layWay_311 ?_
                          refine lv_iload hx hb dX6_layWay_314 (lv_at hl 3 rfl) ?_
                          refine q_i2l hx hb dX6_layWay_316 (by first | omega | exact Nat.lt_of_le_of_lt (hw3 _) (by decide)) ?_
                          refine lv_lmul hx hb dX6_layWay_317 ?_
                          refine p_6_13 (x := 71) (v := (L1 71 13) * (lN (mv w K ro f t1 d))) hC hW (by omega) kd_71 gw_496 dX6_layWay_318 (fun H locs hW => ?_)
                          refine lv_iload hx hb dX6_layWay_321 (lv_at hl 11 rfl) ?_
                          refine lv_iload hx hb dX6_layWay_323 (lv_at hl 8 rfl) ?_
                          refine q_kI0 (q_rS (As := [.int (nI (t1)), .int (nI (d))]) (rest := []) hC hW mw_X6_toldThen gw_598 (k_toldThen l G n ad H.size (up2 (up2 I1 81 s1 (nI t1)) 71 12 (nI (s1 + 1))) (up2 L1 71 13 ((L1 71 13) * (lN (mv w K ro f t1 d)))) R _ _ (by omega) (by omega)) ⟨rfl, rfl⟩ ⟨Nat.le_of_ble_eq_true rfl, Nat.le_of_ble_eq_true rfl⟩ ⟨(Nat.le_of_ble_eq_true rfl), (Nat.le_of_ble_eq_true rfl)⟩ hl.1 rfl rfl (Nat.le_of_ble_eq_true rfl) dX6_layWay_325) hW (fun r_325 H locs hp hW => ?_)
                          subst hp
                          refine lv_istore (lv' := [(4, .int (nI (nx t1 d))), (9, .int (nI 1)), (13, .int (nI (rtN w ro K d f t1))), (12, .int (nI ((7 * t1) + (nx t1 d)))), (11, .int (nI (mv w K ro f t1 d))), (0, .ref (ad 71)), (1, .int (nI (q0))), (2, .int (nI (q - fC w ro K d f t1))), (3, .int (nI (a1 + fC w ro K d f t1))), (5, .int (nI (f))), (7, .long (lN (fM w ro K d f 6))), (10, .int (nI (t1)))]) hx hb dX6_layWay_328 hl (by decide) rfl (fun ls hl => ?_)
                          refine lv_iload hx hb dX6_layWay_330 (lv_at hl 11 rfl) ?_
                          refine lv_istore (lv' := [(5, .int (nI (t1))), (4, .int (nI (nx t1 d))), (9, .int (nI 1)), (13, .int (nI (rtN w ro K d f t1))), (12, .int (nI ((7 * t1) + (nx t1 d)))), (11, .int (nI (mv w K ro f t1 d))), (0, .ref (ad 71)), (1, .int (nI (q0))), (2, .int (nI (q - fC w ro K d f t1))), (3, .int (nI (a1 + fC w ro K d f t1))), (7, .long (lN (fM w ro K d f 6))), (10, .int (nI (t1)))]) hx hb dX6_layWay_332 hl (by decide) rfl (fun ls hl => ?_)
                          refine lv_goto (tgt := 347) hx hb dX6_layWay_334 (by decide) ?_
                          refine q_iinc (z2 := t1 + 1) (lv' := [(10, .int (nI (t1 + 1))), (5, .int (nI (t1))), (4, .int (nI (nx t1 d))), (9, .int (nI 1)), (13, .int (nI (rtN w ro K d f t1))), (12, .int (nI ((7 * t1) + (nx t1 d)))), (11, .int (nI (mv w K ro f t1 d))), (0, .ref (ad 71)), (1, .int (nI (q0))), (2, .int (nI (q - fC w ro K d f t1))), (3, .int (nI (a1 + fC w ro K d f t1))), (7, .long (lN (fM w ro K d f 6)))]) hx hb dX6_layWay_347 hl (k := 11) rfl (inc_up _ 1 (by decide)) (by decide) rfl (fun ls hl => ?_)
                          refine lv_goto (tgt := 153) hx hb dX6_layWay_350 (by decide) ?_
                          refine lv_iload hx hb dX6_layWay_153 (lv_at hl 0 rfl) ?_
                          refine q_bp 6 hx hb dX6_layWay_155 (by decide) ?_
                          refine q_cge (tgt := 353) hx hb dX6_layWay_157 (by decide) (by first | omega | exact Nat.lt_of_le_of_lt (hw3 _) (by decide)) (by first | omega | exact Nat.lt_of_le_of_lt (hw3 _) (by decide)) (fun c_157 => ?_) (fun c_157 => ?_)
                          ·
                            refine lv_iload hx hb dX6_layWay_353 (lv_at hl 1 rfl) ?_
                            refine q_ic 4 hx hb dX6_layWay_355 (by decide) ?_
                            refine q_cge (tgt := 375) hx hb dX6_layWay_356 (by decide) (by first | omega | exact Nat.lt_of_le_of_lt (hw3 _) (by decide)) (by first | omega | exact Nat.lt_of_le_of_lt (hw3 _) (by decide)) (fun c_356 => ?_) (fun c_356 => ?_)
                            ·
                              refine q_ic 0 hx hb dX6_layWay_375 (by decide) ?_
                              refine lv_istore (lv' := [(6, .int (nI 0)), (10, .int (nI (t1 + 1))), (5, .int (nI (t1))), (4, .int (nI (nx t1 d))), (9, .int (nI 1)), (13, .int (nI (rtN w ro K d f t1))), (12, .int (nI ((7 * t1) + (nx t1 d)))), (11, .int (nI (mv w K ro f t1 d))), (0, .ref (ad 71)), (1, .int (nI (q0))), (2, .int (nI (q - fC w ro K d f t1))), (3, .int (nI (a1 + fC w ro K d f t1))), (7, .long (lN (fM w ro K d f 6)))]) hx hb dX6_layWay_376 hl (by decide) rfl (fun ls hl => ?_)
                              have hnj := NJ_s hw hNJ hdK (show t1 < 6 by omega) hp1
                              have hbs := byN_s (w := w) (r := ro) hs18 hdK (show t1 < 6 by omega) hc hq2
                              have hfj := FJ_s (hbs ▸ hF) hs18
                              have hq3 : q - fC w ro K d f t1 < Cx' w K ro (K - nx t1 d) t1 := by have h8 := fC_s w ro K d f t1; rw [rt_p hp1] at h8; omega
                              have hen : bI (nx t1 d = K) = nI 0 := bI_f (by unfold nx; rw [if_neg (by omega)]; omega)
                              have hl : lv_has ls 14 [(6, .int (bI (nx t1 d = K))), (10, .int (nI (t1 + 1))), (5, .int (nI (t1))), (4, .int (nI (nx t1 d))), (9, .int (nI 1)), (13, .int (nI (rtN w ro K d f t1))), (12, .int (nI ((7 * t1) + (nx t1 d)))), (11, .int (nI (mv w K ro f t1 d))), (0, .ref (ad 71)), (1, .int (nI (q0))), (2, .int (nI (q - fC w ro K d f t1))), (3, .int (nI (a1 + fC w ro K d f t1))), (7, .long (lN (fM w ro K d f 6)))] := by rw [hen]; exact hl
                              have hl : lv_has ls 14 [(6, .int (bI (nx t1 d = K))), (10, .int (nI (t1 + 1))), (5, .int (fr6 t1)), (4, .int (nI (nx t1 d))), (9, .int (nI 1)), (13, .int (nI (rtN w ro K d f t1))), (12, .int (nI ((7 * t1) + (nx t1 d)))), (11, .int (nI (mv w K ro f t1 d))), (0, .ref (ad 71)), (1, .int (nI (q0))), (2, .int (nI (q - fC w ro K d f t1))), (3, .int (nI (a1 + fC w ro K d f t1))), (7, .long (lN (fM w ro K d f 6)))] := by rw [show fr6 t1 = nI t1 from if_neg (by omega)]; exact hl
                              refine lv_goto (tgt := 38) hx hb dX6_layWay_378 (by decide) ?_
                              exact ih_38 (s1 + 1) (nx t1 d) t1 (q - fC w ro K d f t1) (a1 + fC w ro K d f t1) (up2 (up2 I1 81 s1 (nI t1)) 71 12 (nI (s1 + 1))) (up2 L1 71 13 ((L1 71 13) * (lN (mv w K ro f t1 d)))) (by omega) hfj hnj hq3 _ _ hW _ (lv_sub hl [8, 9, 10, 11, 3, 2, 0] rfl)
                            ·
                              refine lv_iload hx hb dX6_layWay_359 (lv_at hl 2 rfl) ?_
                              refine lv_aload_n hx hb dX6_layWay_361 rfl (lv_at hl 7 rfl) ?_
                              refine g_6_0 (x := 71) (y := 72) hC hW (by omega) kd_71 gw_483 (hlk 71 0 72 (by omega) rfl) dX6_layWay_362 ?_
                              refine q_bp 58 hx hb dX6_layWay_365 (by decide) ?_
                              refine q_iald (x := 72) (i := 58) hC hW (by omega) kd_72 (by omega) dX6_layWay_367 ?_
                              refine q_top (v2 := .int (nI (K))) (congrArg _ (by rw [up2_ne (by decide), up2_ne (by decide)]; exact hN1.2.1)) ?_
                              refine q_cne (tgt := 375) hx hb dX6_layWay_368 (by decide) (by first | omega | exact Nat.lt_of_le_of_lt (hw3 _) (by decide)) (by first | omega | exact Nat.lt_of_le_of_lt (hw3 _) (by decide)) (fun c_368 => ?_) (fun c_368 => ?_)
                              ·
                                refine q_ic 0 hx hb dX6_layWay_375 (by decide) ?_
                                refine lv_istore (lv' := [(6, .int (nI 0)), (10, .int (nI (t1 + 1))), (5, .int (nI (t1))), (4, .int (nI (nx t1 d))), (9, .int (nI 1)), (13, .int (nI (rtN w ro K d f t1))), (12, .int (nI ((7 * t1) + (nx t1 d)))), (11, .int (nI (mv w K ro f t1 d))), (0, .ref (ad 71)), (1, .int (nI (q0))), (2, .int (nI (q - fC w ro K d f t1))), (3, .int (nI (a1 + fC w ro K d f t1))), (7, .long (lN (fM w ro K d f 6)))]) hx hb dX6_layWay_376 hl (by decide) rfl (fun ls hl => ?_)
                                have hnj := NJ_s hw hNJ hdK (show t1 < 6 by omega) hp1
                                have hbs := byN_s (w := w) (r := ro) hs18 hdK (show t1 < 6 by omega) hc hq2
                                have hfj := FJ_s (hbs ▸ hF) hs18
                                have hq3 : q - fC w ro K d f t1 < Cx' w K ro (K - nx t1 d) t1 := by have h8 := fC_s w ro K d f t1; rw [rt_p hp1] at h8; omega
                                have hen : bI (nx t1 d = K) = nI 0 := bI_f (by omega)
                                have hl : lv_has ls 14 [(6, .int (bI (nx t1 d = K))), (10, .int (nI (t1 + 1))), (5, .int (nI (t1))), (4, .int (nI (nx t1 d))), (9, .int (nI 1)), (13, .int (nI (rtN w ro K d f t1))), (12, .int (nI ((7 * t1) + (nx t1 d)))), (11, .int (nI (mv w K ro f t1 d))), (0, .ref (ad 71)), (1, .int (nI (q0))), (2, .int (nI (q - fC w ro K d f t1))), (3, .int (nI (a1 + fC w ro K d f t1))), (7, .long (lN (fM w ro K d f 6)))] := by rw [hen]; exact hl
                                have hl : lv_has ls 14 [(6, .int (bI (nx t1 d = K))), (10, .int (nI (t1 + 1))), (5, .int (fr6 t1)), (4, .int (nI (nx t1 d))), (9, .int (nI 1)), (13, .int (nI (rtN w ro K d f t1))), (12, .int (nI ((7 * t1) + (nx t1 d)))), (11, .int (nI (mv w K ro f t1 d))), (0, .ref (ad 71)), (1, .int (nI (q0))), (2, .int (nI (q - fC w ro K d f t1))), (3, .int (nI (a1 + fC w ro K d f t1))), (7, .long (lN (fM w ro K d f 6)))] := by rw [show fr6 t1 = nI t1 from if_neg (by omega)]; exact hl
                                refine lv_goto (tgt := 38) hx hb dX6_layWay_378 (by decide) ?_
                                exact ih_38 (s1 + 1) (nx t1 d) t1 (q - fC w ro K d f t1) (a1 + fC w ro K d f t1) (up2 (up2 I1 81 s1 (nI t1)) 71 12 (nI (s1 + 1))) (up2 L1 71 13 ((L1 71 13) * (lN (mv w K ro f t1 d)))) (by omega) hfj hnj hq3 _ _ hW _ (lv_sub hl [8, 9, 10, 11, 3, 2, 0] rfl)
                              ·
                                refine q_ic 1 hx hb dX6_layWay_371 (by decide) ?_
                                refine lv_goto (tgt := 376) hx hb dX6_layWay_372 (by decide) ?_
                                refine lv_istore (lv' := [(6, .int (nI 1)), (10, .int (nI (t1 + 1))), (5, .int (nI (t1))), (4, .int (nI (nx t1 d))), (9, .int (nI 1)), (13, .int (nI (rtN w ro K d f t1))), (12, .int (nI ((7 * t1) + (nx t1 d)))), (11, .int (nI (mv w K ro f t1 d))), (0, .ref (ad 71)), (1, .int (nI (q0))), (2, .int (nI (q - fC w ro K d f t1))), (3, .int (nI (a1 + fC w ro K d f t1))), (7, .long (lN (fM w ro K d f 6)))]) hx hb dX6_layWay_376 hl (by decide) rfl (fun ls hl => ?_)
                                have hnj := NJ_s hw hNJ hdK (show t1 < 6 by omega) hp1
                                have hbs := byN_s (w := w) (r := ro) hs18 hdK (show t1 < 6 by omega) hc hq2
                                have hfj := FJ_s (hbs ▸ hF) hs18
                                have hq3 : q - fC w ro K d f t1 < Cx' w K ro (K - nx t1 d) t1 := by have h8 := fC_s w ro K d f t1; rw [rt_p hp1] at h8; omega
                                have hen : bI (nx t1 d = K) = nI 1 := bI_t (by omega)
                                have hl : lv_has ls 14 [(6, .int (bI (nx t1 d = K))), (10, .int (nI (t1 + 1))), (5, .int (nI (t1))), (4, .int (nI (nx t1 d))), (9, .int (nI 1)), (13, .int (nI (rtN w ro K d f t1))), (12, .int (nI ((7 * t1) + (nx t1 d)))), (11, .int (nI (mv w K ro f t1 d))), (0, .ref (ad 71)), (1, .int (nI (q0))), (2, .int (nI (q - fC w ro K d f t1))), (3, .int (nI (a1 + fC w ro K d f t1))), (7, .long (lN (fM w ro K d f 6)))] := by rw [hen]; exact hl
                                have hl : lv_has ls 14 [(6, .int (bI (nx t1 d = K))), (10, .int (nI (t1 + 1))), (5, .int (fr6 t1)), (4, .int (nI (nx t1 d))), (9, .int (nI 1)), (13, .int (nI (rtN w ro K d f t1))), (12, .int (nI ((7 * t1) + (nx t1 d)))), (11, .int (nI (mv w K ro f t1 d))), (0, .ref (ad 71)), (1, .int (nI (q0))), (2, .int (nI (q - fC w ro K d f t1))), (3, .int (nI (a1 + fC w ro K d f t1))), (7, .long (lN (fM w ro K d f 6)))] := by rw [show fr6 t1 = nI t1 from if_neg (by omega)]; exact hl
                                refine lv_goto (tgt := 38) hx hb dX6_layWay_378 (by decide) ?_
                                exact ih_38 (s1 + 1) (nx t1 d) t1 (q - fC w ro K d f t1) (a1 + fC w ro K d f t1) (up2 (up2 I1 81 s1 (nI t1)) 71 12 (nI (s1 + 1))) (up2 L1 71 13 ((L1 71 13) * (lN (mv w K ro f t1 d)))) (by omega) hfj hnj hq3 _ _ hW _ (lv_sub hl [8, 9, 10, 11, 3, 2, 0] rfl)
                          ·
                            refine lv_iload hx hb dX6_layWay_160 (lv_at hl 3 rfl) ?_
                            refine q_ine (tgt := 353) hx hb dX6_layWay_162 (by decide) (by first | omega | exact Nat.lt_of_le_of_lt (hw3 _) (by decide)) (fun c_162 => ?_) (fun c_162 => absurd c_162 (by decide))
                            refine lv_iload hx hb dX6_layWay_353 (lv_at hl 1 rfl) ?_
                            refine q_ic 4 hx hb dX6_layWay_355 (by decide) ?_
                            refine q_cge (tgt := 375) hx hb dX6_layWay_356 (by decide) (by first | omega | exact Nat.lt_of_le_of_lt (hw3 _) (by decide)) (by first | omega | exact Nat.lt_of_le_of_lt (hw3 _) (by decide)) (fun c_356 => ?_) (fun c_356 => ?_)
                            ·
                              refine q_ic 0 hx hb dX6_layWay_375 (by decide) ?_
                              refine lv_istore (lv' := [(6, .int (nI 0)), (10, .int (nI (t1 + 1))), (5, .int (nI (t1))), (4, .int (nI (nx t1 d))), (9, .int (nI 1)), (13, .int (nI (rtN w ro K d f t1))), (12, .int (nI ((7 * t1) + (nx t1 d)))), (11, .int (nI (mv w K ro f t1 d))), (0, .ref (ad 71)), (1, .int (nI (q0))), (2, .int (nI (q - fC w ro K d f t1))), (3, .int (nI (a1 + fC w ro K d f t1))), (7, .long (lN (fM w ro K d f 6)))]) hx hb dX6_layWay_376 hl (by decide) rfl (fun ls hl => ?_)
                              have hnj := NJ_s hw hNJ hdK (show t1 < 6 by omega) hp1
                              have hbs := byN_s (w := w) (r := ro) hs18 hdK (show t1 < 6 by omega) hc hq2
                              have hfj := FJ_s (hbs ▸ hF) hs18
                              have hq3 : q - fC w ro K d f t1 < Cx' w K ro (K - nx t1 d) t1 := by have h8 := fC_s w ro K d f t1; rw [rt_p hp1] at h8; omega
                              have hen : bI (nx t1 d = K) = nI 0 := bI_f (by unfold nx; rw [if_neg (by omega)]; omega)
                              have hl : lv_has ls 14 [(6, .int (bI (nx t1 d = K))), (10, .int (nI (t1 + 1))), (5, .int (nI (t1))), (4, .int (nI (nx t1 d))), (9, .int (nI 1)), (13, .int (nI (rtN w ro K d f t1))), (12, .int (nI ((7 * t1) + (nx t1 d)))), (11, .int (nI (mv w K ro f t1 d))), (0, .ref (ad 71)), (1, .int (nI (q0))), (2, .int (nI (q - fC w ro K d f t1))), (3, .int (nI (a1 + fC w ro K d f t1))), (7, .long (lN (fM w ro K d f 6)))] := by rw [hen]; exact hl
                              have hl : lv_has ls 14 [(6, .int (bI (nx t1 d = K))), (10, .int (nI (t1 + 1))), (5, .int (fr6 t1)), (4, .int (nI (nx t1 d))), (9, .int (nI 1)), (13, .int (nI (rtN w ro K d f t1))), (12, .int (nI ((7 * t1) + (nx t1 d)))), (11, .int (nI (mv w K ro f t1 d))), (0, .ref (ad 71)), (1, .int (nI (q0))), (2, .int (nI (q - fC w ro K d f t1))), (3, .int (nI (a1 + fC w ro K d f t1))), (7, .long (lN (fM w ro K d f 6)))] := by rw [show fr6 t1 = nI t1 from if_neg (by omega)]; exact hl
                              refine lv_goto (tgt := 38) hx hb dX6_layWay_378 (by decide) ?_
                              exact ih_38 (s1 + 1) (nx t1 d) t1 (q - fC w ro K d f t1) (a1 + fC w ro K d f t1) (up2 (up2 I1 81 s1 (nI t1)) 71 12 (nI (s1 + 1))) (up2 L1 71 13 ((L1 71 13) * (lN (mv w K ro f t1 d)))) (by omega) hfj hnj hq3 _ _ hW _ (lv_sub hl [8, 9, 10, 11, 3, 2, 0] rfl)
                            ·
                              refine lv_iload hx hb dX6_layWay_359 (lv_at hl 2 rfl) ?_
                              refine lv_aload_n hx hb dX6_layWay_361 rfl (lv_at hl 7 rfl) ?_
                              refine g_6_0 (x := 71) (y := 72) hC hW (by omega) kd_71 gw_483 (hlk 71 0 72 (by omega) rfl) dX6_layWay_362 ?_
                              refine q_bp 58 hx hb dX6_layWay_365 (by decide) ?_
                              refine q_iald (x := 72) (i := 58) hC hW (by omega) kd_72 (by omega) dX6_layWay_367 ?_
                              refine q_top (v2 := .int (nI (K))) (congrArg _ (by rw [up2_ne (by decide), up2_ne (by decide)]; exact hN1.2.1)) ?_
                              refine q_cne (tgt := 375) hx hb dX6_layWay_368 (by decide) (by first | omega | exact Nat.lt_of_le_of_lt (hw3 _) (by decide)) (by first | omega | exact Nat.lt_of_le_of_lt (hw3 _) (by decide)) (fun c_368 => ?_) (fun c_368 => ?_)
                              ·
                                refine q_ic 0 hx hb dX6_layWay_375 (by decide) ?_
                                refine lv_istore (lv' := [(6, .int (nI 0)), (10, .int (nI (t1 + 1))), (5, .int (nI (t1))), (4, .int (nI (nx t1 d))), (9, .int (nI 1)), (13, .int (nI (rtN w ro K d f t1))), (12, .int (nI ((7 * t1) + (nx t1 d)))), (11, .int (nI (mv w K ro f t1 d))), (0, .ref (ad 71)), (1, .int (nI (q0))), (2, .int (nI (q - fC w ro K d f t1))), (3, .int (nI (a1 + fC w ro K d f t1))), (7, .long (lN (fM w ro K d f 6)))]) hx hb dX6_layWay_376 hl (by decide) rfl (fun ls hl => ?_)
                                have hnj := NJ_s hw hNJ hdK (show t1 < 6 by omega) hp1
                                have hbs := byN_s (w := w) (r := ro) hs18 hdK (show t1 < 6 by omega) hc hq2
                                have hfj := FJ_s (hbs ▸ hF) hs18
                                have hq3 : q - fC w ro K d f t1 < Cx' w K ro (K - nx t1 d) t1 := by have h8 := fC_s w ro K d f t1; rw [rt_p hp1] at h8; omega
                                have hen : bI (nx t1 d = K) = nI 0 := bI_f (by omega)
                                have hl : lv_has ls 14 [(6, .int (bI (nx t1 d = K))), (10, .int (nI (t1 + 1))), (5, .int (nI (t1))), (4, .int (nI (nx t1 d))), (9, .int (nI 1)), (13, .int (nI (rtN w ro K d f t1))), (12, .int (nI ((7 * t1) + (nx t1 d)))), (11, .int (nI (mv w K ro f t1 d))), (0, .ref (ad 71)), (1, .int (nI (q0))), (2, .int (nI (q - fC w ro K d f t1))), (3, .int (nI (a1 + fC w ro K d f t1))), (7, .long (lN (fM w ro K d f 6)))] := by rw [hen]; exact hl
                                have hl : lv_has ls 14 [(6, .int (bI (nx t1 d = K))), (10, .int (nI (t1 + 1))), (5, .int (fr6 t1)), (4, .int (nI (nx t1 d))), (9, .int (nI 1)), (13, .int (nI (rtN w ro K d f t1))), (12, .int (nI ((7 * t1) + (nx t1 d)))), (11, .int (nI (mv w K ro f t1 d))), (0, .ref (ad 71)), (1, .int (nI (q0))), (2, .int (nI (q - fC w ro K d f t1))), (3, .int (nI (a1 + fC w ro K d f t1))), (7, .long (lN (fM w ro K d f 6)))] := by rw [show fr6 t1 = nI t1 from if_neg (by omega)]; exact hl
                                refine lv_goto (tgt := 38) hx hb dX6_layWay_378 (by decide) ?_
                                exact ih_38 (s1 + 1) (nx t1 d) t1 (q - fC w ro K d f t1) (a1 + fC w ro K d f t1) (up2 (up2 I1 81 s1 (nI t1)) 71 12 (nI (s1 + 1))) (up2 L1 71 13 ((L1 71 13) * (lN (mv w K ro f t1 d)))) (by omega) hfj hnj hq3 _ _ hW _ (lv_sub hl [8, 9, 10, 11, 3, 2, 0] rfl)
                              ·
                                refine q_ic 1 hx hb dX6_layWay_371 (by decide) ?_
                                refine lv_goto (tgt := 376) hx hb dX6_layWay_372 (by decide) ?_
                                refine lv_istore (lv' := [(6, .int (nI 1)), (10, .int (nI (t1 + 1))), (5, .int (nI (t1))), (4, .int (nI (nx t1 d))), (9, .int (nI 1)), (13, .int (nI (rtN w ro K d f t1))), (12, .int (nI ((7 * t1) + (nx t1 d)))), (11, .int (nI (mv w K ro f t1 d))), (0, .ref (ad 71)), (1, .int (nI (q0))), (2, .int (nI (q - fC w ro K d f t1))), (3, .int (nI (a1 + fC w ro K d f t1))), (7, .long (lN (fM w ro K d f 6)))]) hx hb dX6_layWay_376 hl (by decide) rfl (fun ls hl => ?_)
                                have hnj := NJ_s hw hNJ hdK (show t1 < 6 by omega) hp1
                                have hbs := byN_s (w := w) (r := ro) hs18 hdK (show t1 < 6 by omega) hc hq2
                                have hfj := FJ_s (hbs ▸ hF) hs18
                                have hq3 : q - fC w ro K d f t1 < Cx' w K ro (K - nx t1 d) t1 := by have h8 := fC_s w ro K d f t1; rw [rt_p hp1] at h8; omega
                                have hen : bI (nx t1 d = K) = nI 1 := bI_t (by omega)
                                have hl : lv_has ls 14 [(6, .int (bI (nx t1 d = K))), (10, .int (nI (t1 + 1))), (5, .int (nI (t1))), (4, .int (nI (nx t1 d))), (9, .int (nI 1)), (13, .int (nI (rtN w ro K d f t1))), (12, .int (nI ((7 * t1) + (nx t1 d)))), (11, .int (nI (mv w K ro f t1 d))), (0, .ref (ad 71)), (1, .int (nI (q0))), (2, .int (nI (q - fC w ro K d f t1))), (3, .int (nI (a1 + fC w ro K d f t1))), (7, .long (lN (fM w ro K d f 6)))] := by rw [hen]; exact hl
                                have hl : lv_has ls 14 [(6, .int (bI (nx t1 d = K))), (10, .int (nI (t1 + 1))), (5, .int (fr6 t1)), (4, .int (nI (nx t1 d))), (9, .int (nI 1)), (13, .int (nI (rtN w ro K d f t1))), (12, .int (nI ((7 * t1) + (nx t1 d)))), (11, .int (nI (mv w K ro f t1 d))), (0, .ref (ad 71)), (1, .int (nI (q0))), (2, .int (nI (q - fC w ro K d f t1))), (3, .int (nI (a1 + fC w ro K d f t1))), (7, .long (lN (fM w ro K d f 6)))] := by rw [show fr6 t1 = nI t1 from if_neg (by omega)]; exact hl
                                refine lv_goto (tgt := 38) hx hb dX6_layWay_378 (by decide) ?_
                                exact ih_38 (s1 + 1) (nx t1 d) t1 (q - fC w ro K d f t1) (a1 + fC w ro K d f t1) (up2 (up2 I1 81 s1 (nI t1)) 71 12 (nI (s1 + 1))) (up2 L1 71 13 ((L1 71 13) * (lN (mv w K ro f t1 d)))) (by omega) hfj hnj hq3 _ _ hW _ (lv_sub hl [8, 9, 10, 11, 3, 2, 0] rfl)
                      ·
                        have hp1 : 0 < mv w K ro f t1 d := by omega
                        have hnx : nx t1 d ≤ K := nx_K2 hp1 (by omega)
                        have hmb := mM_lt hw (r := ro) K d f t1 hk6
                        refine lv_aload_n hx hb dX6_layWay_218 rfl (lv_at hl 2 rfl) ?_
                        refine g_6_9 (x := 71) (y := 79) hC hW (by omega) kd_71 gw_492 (hlk 71 9 79 (by omega) rfl) dX6_layWay_219 ?_
                        refine lv_iload hx hb dX6_layWay_222 (lv_at hl 0 rfl) ?_
                        refine q_iald (x := 79) (i := (7 * t1) + (nx t1 d)) hC hW (by omega) kd_79 (by omega) dX6_layWay_224 ?_
                        refine q_top (v2 := .int (nI (Cx' w K ro (K - (nx t1 d)) t1))) (congrArg _ (hB1 (nx t1 d) t1 (by omega) hnx (by omega)).2.2) ?_
                        refine lv_goto (tgt := 229) hx hb dX6_layWay_225 (by decide) ?_
                        have hrb := rtN_b hw (r := ro) (K := K) (d := d) (f := f) (t := t1) hk6
                        refine q_top (v2 := .int (nI (rtN w ro K d f t1))) (by rw [rt_p hp1]) ?_
                        refine lv_istore (lv' := [(13, .int (nI (rtN w ro K d f t1))), (12, .int (nI ((7 * t1) + (nx t1 d)))), (11, .int (nI (mv w K ro f t1 d))), (0, .ref (ad 71)), (1, .int (nI (q0))), (2, .int (nI (q - fC w ro K d f t1))), (3, .int (nI (a1 + fC w ro K d f t1))), (4, .int (nI (d))), (5, .int (nI (f))), (7, .long (lN (fM w ro K d f 6))), (9, .int (nI 0)), (10, .int (nI (t1)))]) hx hb dX6_layWay_229 hl (by decide) rfl (fun ls hl => ?_)
                        refine lv_iload_n hx hb dX6_layWay_231 rfl (lv_at hl 4 rfl) ?_
                        refine lv_if_ge (tgt := 270) hx hb dX6_layWay_232 (by decide) (fun c_232 => ?_) (fun c_232 => absurd (Int32.not_lt.mp (nI_pos (by omega))) c_232)
                        refine lv_iload_n hx hb dX6_layWay_270 rfl (lv_at hl 5 rfl) ?_
                        refine lv_iload hx hb dX6_layWay_271 (lv_at hl 0 rfl) ?_
                        refine q_cge (tgt := 280) hx hb dX6_layWay_273 (by decide) (by first | omega | exact Nat.lt_of_le_of_lt (hw3 _) (by decide)) (by first | omega | exact Nat.lt_of_le_of_lt (hw3 _) (by decide)) (fun c_273 => ?_) (fun c_273 => ?_)
                        ·
                          refine q_ic 0 hx hb dX6_layWay_280 (by decide) ?_
                          refine lv_istore (lv' := [(9, .int (nI 0)), (13, .int (nI (rtN w ro K d f t1))), (12, .int (nI ((7 * t1) + (nx t1 d)))), (11, .int (nI (mv w K ro f t1 d))), (0, .ref (ad 71)), (1, .int (nI (q0))), (2, .int (nI (q - fC w ro K d f t1))), (3, .int (nI (a1 + fC w ro K d f t1))), (4, .int (nI (d))), (5, .int (nI (f))), (7, .long (lN (fM w ro K d f 6))), (10, .int (nI (t1)))]) hx hb dX6_layWay_281 hl (by decide) rfl (fun ls hl => ?_)
                          refine lv_iload hx hb dX6_layWay_283 (lv_at hl 0 rfl) ?_
                          refine q_ieq (tgt := 337) hx hb dX6_layWay_285 (by decide) (by first | omega | exact Nat.lt_of_le_of_lt (hw3 _) (by decide)) (fun c_285 => ?_) (fun c_285 => absurd c_285 (by decide))
                          refine lv_iload_n hx hb dX6_layWay_337 rfl (lv_at hl 6 rfl) ?_
                          refine lv_iload hx hb dX6_layWay_338 (lv_at hl 1 rfl) ?_
                          refine q_isub hx hb dX6_layWay_340 (by omega) ?_
                          refine q_top (v2 := .int (nI (q - fC w ro K d f (t1 + 1)))) (by rw [fC_s, Nat.sub_add_eq]) ?_
                          refine lv_istore_n (lv' := [(2, .int (nI (q - fC w ro K d f (t1 + 1)))), (9, .int (nI 0)), (13, .int (nI (rtN w ro K d f t1))), (12, .int (nI ((7 * t1) + (nx t1 d)))), (11, .int (nI (mv w K ro f t1 d))), (0, .ref (ad 71)), (1, .int (nI (q0))), (3, .int (nI (a1 + fC w ro K d f t1))), (4, .int (nI (d))), (5, .int (nI (f))), (7, .long (lN (fM w ro K d f 6))), (10, .int (nI (t1)))]) hx hb dX6_layWay_341 rfl hl (by decide) rfl (fun ls hl => ?_)
                          refine lv_iload_n hx hb dX6_layWay_342 rfl (lv_at hl 7 rfl) ?_
                          refine lv_iload hx hb dX6_layWay_343 (lv_at hl 2 rfl) ?_
                          refine q_iadd hx hb dX6_layWay_345 ?_
                          refine q_top (v2 := .int (nI (a1 + fC w ro K d f (t1 + 1)))) (by rw [fC_s, Nat.add_assoc]) ?_
                          refine lv_istore_n (lv' := [(3, .int (nI (a1 + fC w ro K d f (t1 + 1)))), (2, .int (nI (q - fC w ro K d f (t1 + 1)))), (9, .int (nI 0)), (13, .int (nI (rtN w ro K d f t1))), (12, .int (nI ((7 * t1) + (nx t1 d)))), (11, .int (nI (mv w K ro f t1 d))), (0, .ref (ad 71)), (1, .int (nI (q0))), (4, .int (nI (d))), (5, .int (nI (f))), (7, .long (lN (fM w ro K d f 6))), (10, .int (nI (t1)))]) hx hb dX6_layWay_346 rfl hl (by decide) rfl (fun ls hl => ?_)
                          refine q_iinc (z2 := t1 + 1) (lv' := [(10, .int (nI (t1 + 1))), (3, .int (nI (a1 + fC w ro K d f (t1 + 1)))), (2, .int (nI (q - fC w ro K d f (t1 + 1)))), (9, .int (nI 0)), (13, .int (nI (rtN w ro K d f t1))), (12, .int (nI ((7 * t1) + (nx t1 d)))), (11, .int (nI (mv w K ro f t1 d))), (0, .ref (ad 71)), (1, .int (nI (q0))), (4, .int (nI (d))), (5, .int (nI (f))), (7, .long (lN (fM w ro K d f 6)))]) hx hb dX6_layWay_347 hl (k := 11) rfl (inc_up _ 1 (by decide)) (by decide) rfl (fun ls hl => ?_)
                          refine lv_goto (tgt := 153) hx hb dX6_layWay_350 (by decide) ?_
                          exact ih_153 (t1 + 1) (by omega) (by omega) (by rw [fC_s]; omega) _ _ hW _ (lv_sub hl [7, 8, 2, 1, 9, 10, 11, 3, 0] rfl)
                        ·
                          refine q_ic 1 hx hb dX6_layWay_276 (by decide) ?_
                          refine lv_goto (tgt := 281) hx hb dX6_layWay_277 (by decide) ?_
                          have hq2 : q < fC w ro K d f (t1 + 1) := by rw [fC_s]; omega
                          refine lv_istore (lv' := [(9, .int (nI 1)), (13, .int (nI (rtN w ro K d f t1))), (12, .int (nI ((7 * t1) + (nx t1 d)))), (11, .int (nI (mv w K ro f t1 d))), (0, .ref (ad 71)), (1, .int (nI (q0))), (2, .int (nI (q - fC w ro K d f t1))), (3, .int (nI (a1 + fC w ro K d f t1))), (4, .int (nI (d))), (5, .int (nI (f))), (7, .long (lN (fM w ro K d f 6))), (10, .int (nI (t1)))]) hx hb dX6_layWay_281 hl (by decide) rfl (fun ls hl => ?_)
                          refine lv_iload hx hb dX6_layWay_283 (lv_at hl 0 rfl) ?_
                          refine q_ieq (tgt := 337) hx hb dX6_layWay_285 (by decide) (by first | omega | exact Nat.lt_of_le_of_lt (hw3 _) (by decide)) (fun c_285 => absurd c_285 (by decide)) (fun c_285 => ?_)
                          refine lv_aload_n hx hb dX6_layWay_288 rfl (lv_at hl 4 rfl) ?_
                          refine g_6_11 (x := 71) (y := 81) hC hW (by omega) kd_71 gw_494 (hlk 71 11 81 (by omega) rfl) dX6_layWay_289 ?_
                          refine lv_aload_n hx hb dX6_layWay_292 rfl (lv_at hl 4 rfl) ?_
                          refine g_6_12 (x := 71) hC hW (by omega) kd_71 gw_495 dX6_layWay_293 ?_
                          refine q_top (v2 := .int (nI (s1))) (congrArg _ hF.2.1) ?_
                          refine lv_iload hx hb dX6_layWay_296 (lv_at hl 11 rfl) ?_
                          refine q_iast (x := 81) (i := s1) (v := nI t1) hC hW (by omega) kd_81 (by omega) dX6_layWay_298 (fun H locs hW => ?_)
                          refine lv_aload_n hx hb dX6_layWay_299 rfl (lv_at hl 4 rfl) ?_
                          refine lv_dup hx hb dX6_layWay_300 rfl ?_
                          refine g_6_12 (x := 71) hC hW (by omega) kd_71 gw_495 dX6_layWay_301 ?_
                          refine q_top (v2 := .int (nI (s1))) (congrArg _ (by rw [up2_ne (by decide)]; exact hF.2.1)) ?_
                          refine q_ic 1 hx hb dX6_layWay_304 (by decide) ?_
                          refine q_iadd hx hb dX6_layWay_305 ?_
                          refine p_6_12 (x := 71) (v := nI (s1 + 1)) hC hW (by omega) kd_71 gw_495 dX6_layWay_306 (fun H locs hW => ?_)
                          refine lv_aload_n hx hb dX6_layWay_309 rfl (lv_at hl 4 rfl) ?_
                          refine lv_dup hx hb dX6_layWay_310 rfl ?_
                          refine g_6_13 (x := 71) hC hW (by omega) kd_71 gw_496 dX6_layWay_311 ?_
                          refine lv_iload hx hb dX6_layWay_314 (lv_at hl 3 rfl) ?_
                          refine q_i2l hx hb dX6_layWay_316 (by first | omega | exact Nat.lt_of_le_of_lt (hw3 _) (by decide)) ?_
                          refine lv_lmul hx hb dX6_layWay_317 ?_
                          refine p_6_13 (x := 71) (v := (L1 71 13) * (lN (mv w K ro f t1 d))) hC hW (by omega) kd_71 gw_496 dX6_layWay_318 (fun H locs hW => ?_)
                          refine lv_iload hx hb dX6_layWay_321 (lv_at hl 11 rfl) ?_
                          refine lv_iload hx hb dX6_layWay_323 (lv_at hl 8 rfl) ?_
                          refine q_kI0 (q_rS (As := [.int (nI (t1)), .int (nI (d))]) (rest := []) hC hW mw_X6_toldThen gw_598 (k_toldThen l G n ad H.size (up2 (up2 I1 81 s1 (nI t1)) 71 12 (nI (s1 + 1))) (up2 L1 71 13 ((L1 71 13) * (lN (mv w K ro f t1 d)))) R _ _ (by omega) (by omega)) ⟨rfl, rfl⟩ ⟨Nat.le_of_ble_eq_true rfl, Nat.le_of_ble_eq_true rfl⟩ ⟨(Nat.le_of_ble_eq_true rfl), (Nat.le_of_ble_eq_true rfl)⟩ hl.1 rfl rfl (Nat.le_of_ble_eq_true rfl) dX6_layWay_325) hW (fun r_325 H locs hp hW => ?_)
                          subst hp
                          refine lv_istore (lv' := [(4, .int (nI (nx t1 d))), (9, .int (nI 1)), (13, .int (nI (rtN w ro K d f t1))), (12, .int (nI ((7 * t1) + (nx t1 d)))), (11, .int (nI (mv w K ro f t1 d))), (0, .ref (ad 71)), (1, .int (nI (q0))), (2, .int (nI (q - fC w ro K d f t1))), (3, .int (nI (a1 + fC w ro K d f t1))), (5, .int (nI (f))), (7, .long (lN (fM w ro K d f 6))), (10, .int (nI (t1)))]) hx hb dX6_layWay_328 hl (by decide) rfl (fun ls hl => ?_)
                          refine lv_iload hx hb dX6_layWay_330 (lv_at hl 11 rfl) ?_
                          refine lv_istore (lv' := [(5, .int (nI (t1))), (4, .int (nI (nx t1 d))), (9, .int (nI 1)), (13, .int (nI (rtN w ro K d f t1))), (12, .int (nI ((7 * t1) + (nx t1 d)))), (11, .int (nI (mv w K ro f t1 d))), (0, .ref (ad 71)), (1, .int (nI (q0))), (2, .int (nI (q - fC w ro K d f t1))), (3, .int (nI (a1 + fC w ro K d f t1))), (7, .long (lN (fM w ro K d f 6))), (10, .int (nI (t1)))]) hx hb dX6_layWay_332 hl (by decide) rfl (fun ls hl => ?_)
                          refine lv_goto (tgt := 347) hx hb dX6_layWay_334 (by decide) ?_
                          refine q_iinc (z2 := t1 + 1) (lv' := [(10, .int (nI (t1 + 1))), (5, .int (nI (t1))), (4, .int (nI (nx t1 d))), (9, .int (nI 1)), (13, .int (nI (rtN w ro K d f t1))), (12, .int (nI ((7 * t1) + (nx t1 d)))), (11, .int (nI (mv w K ro f t1 d))), (0, .ref (ad 71)), (1, .int (nI (q0))), (2, .int (nI (q - fC w ro K d f t1))), (3, .int (nI (a1 + fC w ro K d f t1))), (7, .long (lN (fM w ro K d f 6)))]) hx hb dX6_layWay_347 hl (k := 11) rfl (inc_up _ 1 (by decide)) (by decide) rfl (fun ls hl => ?_)
                          refine lv_goto (tgt := 153) hx hb dX6_layWay_350 (by decide) ?_
                          refine lv_iload hx hb dX6_layWay_153 (lv_at hl 0 rfl) ?_
                          refine q_bp 6 hx hb dX6_layWay_155 (by decide) ?_
                          refine q_cge (tgt := 353) hx hb dX6_layWay_157 (by decide) (by first | omega | exact Nat.lt_of_le_of_lt (hw3 _) (by decide)) (by first | omega | exact Nat.lt_of_le_of_lt (hw3 _) (by decide)) (fun c_157 => ?_) (fun c_157 => ?_)
                          ·
                            refine lv_iload hx hb dX6_layWay_353 (lv_at hl 1 rfl) ?_
                            refine q_ic 4 hx hb dX6_layWay_355 (by decide) ?_
                            refine q_cge (tgt := 375) hx hb dX6_layWay_356 (by decide) (by first | omega | exact Nat.lt_of_le_of_lt (hw3 _) (by decide)) (by first | omega | exact Nat.lt_of_le_of_lt (hw3 _) (by decide)) (fun c_356 => ?_) (fun c_356 => ?_)
                            ·
                              refine q_ic 0 hx hb dX6_layWay_375 (by decide) ?_
                              refine lv_istore (lv' := [(6, .int (nI 0)), (10, .int (nI (t1 + 1))), (5, .int (nI (t1))), (4, .int (nI (nx t1 d))), (9, .int (nI 1)), (13, .int (nI (rtN w ro K d f t1))), (12, .int (nI ((7 * t1) + (nx t1 d)))), (11, .int (nI (mv w K ro f t1 d))), (0, .ref (ad 71)), (1, .int (nI (q0))), (2, .int (nI (q - fC w ro K d f t1))), (3, .int (nI (a1 + fC w ro K d f t1))), (7, .long (lN (fM w ro K d f 6)))]) hx hb dX6_layWay_376 hl (by decide) rfl (fun ls hl => ?_)
                              have hnj := NJ_s hw hNJ hdK (show t1 < 6 by omega) hp1
                              have hbs := byN_s (w := w) (r := ro) hs18 hdK (show t1 < 6 by omega) hc hq2
                              have hfj := FJ_s (hbs ▸ hF) hs18
                              have hq3 : q - fC w ro K d f t1 < Cx' w K ro (K - nx t1 d) t1 := by have h8 := fC_s w ro K d f t1; rw [rt_p hp1] at h8; omega
                              have hen : bI (nx t1 d = K) = nI 0 := bI_f (by unfold nx; rw [if_neg (by omega)]; omega)
                              have hl : lv_has ls 14 [(6, .int (bI (nx t1 d = K))), (10, .int (nI (t1 + 1))), (5, .int (nI (t1))), (4, .int (nI (nx t1 d))), (9, .int (nI 1)), (13, .int (nI (rtN w ro K d f t1))), (12, .int (nI ((7 * t1) + (nx t1 d)))), (11, .int (nI (mv w K ro f t1 d))), (0, .ref (ad 71)), (1, .int (nI (q0))), (2, .int (nI (q - fC w ro K d f t1))), (3, .int (nI (a1 + fC w ro K d f t1))), (7, .long (lN (fM w ro K d f 6)))] := by rw [hen]; exact hl
                              have hl : lv_has ls 14 [(6, .int (bI (nx t1 d = K))), (10, .int (nI (t1 + 1))), (5, .int (fr6 t1)), (4, .int (nI (nx t1 d))), (9, .int (nI 1)), (13, .int (nI (rtN w ro K d f t1))), (12, .int (nI ((7 * t1) + (nx t1 d)))), (11, .int (nI (mv w K ro f t1 d))), (0, .ref (ad 71)), (1, .int (nI (q0))), (2, .int (nI (q - fC w ro K d f t1))), (3, .int (nI (a1 + fC w ro K d f t1))), (7, .long (lN (fM w ro K d f 6)))] := by rw [show fr6 t1 = nI t1 from if_neg (by omega)]; exact hl
                              refine lv_goto (tgt := 38) hx hb dX6_layWay_378 (by decide) ?_
                              exact ih_38 (s1 + 1) (nx t1 d) t1 (q - fC w ro K d f t1) (a1 + fC w ro K d f t1) (up2 (up2 I1 81 s1 (nI t1)) 71 12 (nI (s1 + 1))) (up2 L1 71 13 ((L1 71 13) * (lN (mv w K ro f t1 d)))) (by omega) hfj hnj hq3 _ _ hW _ (lv_sub hl [8, 9, 10, 11, 3, 2, 0] rfl)
                            ·
                              refine lv_iload hx hb dX6_layWay_359 (lv_at hl 2 rfl) ?_
                              refine lv_aload_n hx hb dX6_layWay_361 rfl (lv_at hl 7 rfl) ?_
                              refine g_6_0 (x := 71) (y := 72) hC hW (by omega) kd_71 gw_483 (hlk 71 0 72 (by omega) rfl) dX6_layWay_362 ?_
                              refine q_bp 58 hx hb dX6_layWay_365 (by decide) ?_
                              refine q_iald (x := 72) (i := 58) hC hW (by omega) kd_72 (by omega) dX6_layWay_367 ?_
                              refine q_top (v2 := .int (nI (K))) (congrArg _ (by rw [up2_ne (by decide), up2_ne (by decide)]; exact hN1.2.1)) ?_
                              refine q_cne (tgt := 375) hx hb dX6_layWay_368 (by decide) (by first | omega | exact Nat.lt_of_le_of_lt (hw3 _) (by decide)) (by first | omega | exact Nat.lt_of_le_of_lt (hw3 _) (by decide)) (fun c_368 => ?_) (fun c_368 => ?_)
                              ·
                                refine q_ic 0 hx hb dX6_layWay_375 (by decide) ?_
                                refine lv_istore (lv' := [(6, .int (nI 0)), (10, .int (nI (t1 + 1))), (5, .int (nI (t1))), (4, .int (nI (nx t1 d))), (9, .int (nI 1)), (13, .int (nI (rtN w ro K d f t1))), (12, .int (nI ((7 * t1) + (nx t1 d)))), (11, .int (nI (mv w K ro f t1 d))), (0, .ref (ad 71)), (1, .int (nI (q0))), (2, .int (nI (q - fC w ro K d f t1))), (3, .int (nI (a1 + fC w ro K d f t1))), (7, .long (lN (fM w ro K d f 6)))]) hx hb dX6_layWay_376 hl (by decide) rfl (fun ls hl => ?_)
                                have hnj := NJ_s hw hNJ hdK (show t1 < 6 by omega) hp1
                                have hbs := byN_s (w := w) (r := ro) hs18 hdK (show t1 < 6 by omega) hc hq2
                                have hfj := FJ_s (hbs ▸ hF) hs18
                                have hq3 : q - fC w ro K d f t1 < Cx' w K ro (K - nx t1 d) t1 := by have h8 := fC_s w ro K d f t1; rw [rt_p hp1] at h8; omega
                                have hen : bI (nx t1 d = K) = nI 0 := bI_f (by omega)
                                have hl : lv_has ls 14 [(6, .int (bI (nx t1 d = K))), (10, .int (nI (t1 + 1))), (5, .int (nI (t1))), (4, .int (nI (nx t1 d))), (9, .int (nI 1)), (13, .int (nI (rtN w ro K d f t1))), (12, .int (nI ((7 * t1) + (nx t1 d)))), (11, .int (nI (mv w K ro f t1 d))), (0, .ref (ad 71)), (1, .int (nI (q0))), (2, .int (nI (q - fC w ro K d f t1))), (3, .int (nI (a1 + fC w ro K d f t1))), (7, .long (lN (fM w ro K d f 6)))] := by rw [hen]; exact hl
                                have hl : lv_has ls 14 [(6, .int (bI (nx t1 d = K))), (10, .int (nI (t1 + 1))), (5, .int (fr6 t1)), (4, .int (nI (nx t1 d))), (9, .int (nI 1)), (13, .int (nI (rtN w ro K d f t1))), (12, .int (nI ((7 * t1) + (nx t1 d)))), (11, .int (nI (mv w K ro f t1 d))), (0, .ref (ad 71)), (1, .int (nI (q0))), (2, .int (nI (q - fC w ro K d f t1))), (3, .int (nI (a1 + fC w ro K d f t1))), (7, .long (lN (fM w ro K d f 6)))] := by rw [show fr6 t1 = nI t1 from if_neg (by omega)]; exact hl
                                refine lv_goto (tgt := 38) hx hb dX6_layWay_378 (by decide) ?_
                                exact ih_38 (s1 + 1) (nx t1 d) t1 (q - fC w ro K d f t1) (a1 + fC w ro K d f t1) (up2 (up2 I1 81 s1 (nI t1)) 71 12 (nI (s1 + 1))) (up2 L1 71 13 ((L1 71 13) * (lN (mv w K ro f t1 d)))) (by omega) hfj hnj hq3 _ _ hW _ (lv_sub hl [8, 9, 10, 11, 3, 2, 0] rfl)
                              ·
                                refine q_ic 1 hx hb dX6_layWay_371 (by decide) ?_
                                refine lv_goto (tgt := 376) hx hb dX6_layWay_372 (by decide) ?_
                                refine lv_istore (lv' := [(6, .int (nI 1)), (10, .int (nI (t1 + 1))), (5, .int (nI (t1))), (4, .int (nI (nx t1 d))), (9, .int (nI 1)), (13, .int (nI (rtN w ro K d f t1))), (12, .int (nI ((7 * t1) + (nx t1 d)))), (11, .int (nI (mv w K ro f t1 d))), (0, .ref (ad 71)), (1, .int (nI (q0))), (2, .int (nI (q - fC w ro K d f t1))), (3, .int (nI (a1 + fC w ro K d f t1))), (7, .long (lN (fM w ro K d f 6)))]) hx hb dX6_layWay_376 hl (by decide) rfl (fun ls hl => ?_)
                                have hnj := NJ_s hw hNJ hdK (show t1 < 6 by omega) hp1
                                have hbs := byN_s (w := w) (r := ro) hs18 hdK (show t1 < 6 by omega) hc hq2
                                have hfj := FJ_s (hbs ▸ hF) hs18
                                have hq3 : q - fC w ro K d f t1 < Cx' w K ro (K - nx t1 d) t1 := by have h8 := fC_s w ro K d f t1; rw [rt_p hp1] at h8; omega
                                have hen : bI (nx t1 d = K) = nI 1 := bI_t (by omega)
                                have hl : lv_has ls 14 [(6, .int (bI (nx t1 d = K))), (10, .int (nI (t1 + 1))), (5, .int (nI (t1))), (4, .int (nI (nx t1 d))), (9, .int (nI 1)), (13, .int (nI (rtN w ro K d f t1))), (12, .int (nI ((7 * t1) + (nx t1 d)))), (11, .int (nI (mv w K ro f t1 d))), (0, .ref (ad 71)), (1, .int (nI (q0))), (2, .int (nI (q - fC w ro K d f t1))), (3, .int (nI (a1 + fC w ro K d f t1))), (7, .long (lN (fM w ro K d f 6)))] := by rw [hen]; exact hl
                                have hl : lv_has ls 14 [(6, .int (bI (nx t1 d = K))), (10, .int (nI (t1 + 1))), (5, .int (fr6 t1)), (4, .int (nI (nx t1 d))), (9, .int (nI 1)), (13, .int (nI (rtN w ro K d f t1))), (12, .int (nI ((7 * t1) + (nx t1 d)))), (11, .int (nI (mv w K ro f t1 d))), (0, .ref (ad 71)), (1, .int (nI (q0))), (2, .int (nI (q - fC w ro K d f t1))), (3, .int (nI (a1 + fC w ro K d f t1))), (7, .long (lN (fM w ro K d f 6)))] := by rw [show fr6 t1 = nI t1 from if_neg (by omega)]; exact hl
                                refine lv_goto (tgt := 38) hx hb dX6_layWay_378 (by decide) ?_
                                exact ih_38 (s1 + 1) (nx t1 d) t1 (q - fC w ro K d f t1) (a1 + fC w ro K d f t1) (up2 (up2 I1 81 s1 (nI t1)) 71 12 (nI (s1 + 1))) (up2 L1 71 13 ((L1 71 13) * (lN (mv w K ro f t1 d)))) (by omega) hfj hnj hq3 _ _ hW _ (lv_sub hl [8, 9, 10, 11, 3, 2, 0] rfl)
                          ·
                            refine lv_iload hx hb dX6_layWay_160 (lv_at hl 3 rfl) ?_
                            refine q_ine (tgt := 353) hx hb dX6_layWay_162 (by decide) (by first | omega | exact Nat.lt_of_le_of_lt (hw3 _) (by decide)) (fun c_162 => ?_) (fun c_162 => absurd c_162 (by decide))
                            refine lv_iload hx hb dX6_layWay_353 (lv_at hl 1 rfl) ?_
                            refine q_ic 4 hx hb dX6_layWay_355 (by decide) ?_
                            refine q_cge (tgt := 375) hx hb dX6_layWay_356 (by decide) (by first | omega | exact Nat.lt_of_le_of_lt (hw3 _) (by decide)) (by first | omega | exact Nat.lt_of_le_of_lt (hw3 _) (by decide)) (fun c_356 => ?_) (fun c_356 => ?_)
                            ·
                              refine q_ic 0 hx hb dX6_layWay_375 (by decide) ?_
                              refine lv_istore (lv' := [(6, .int (nI 0)), (10, .int (nI (t1 + 1))), (5, .int (nI (t1))), (4, .int (nI (nx t1 d))), (9, .int (nI 1)), (13, .int (nI (rtN w ro K d f t1))), (12, .int (nI ((7 * t1) + (nx t1 d)))), (11, .int (nI (mv w K ro f t1 d))), (0, .ref (ad 71)), (1, .int (nI (q0))), (2, .int (nI (q - fC w ro K d f t1))), (3, .int (nI (a1 + fC w ro K d f t1))), (7, .long (lN (fM w ro K d f 6)))]) hx hb dX6_layWay_376 hl (by decide) rfl (fun ls hl => ?_)
                              have hnj := NJ_s hw hNJ hdK (show t1 < 6 by omega) hp1
                              have hbs := byN_s (w := w) (r := ro) hs18 hdK (show t1 < 6 by omega) hc hq2
                              have hfj := FJ_s (hbs ▸ hF) hs18
                              have hq3 : q - fC w ro K d f t1 < Cx' w K ro (K - nx t1 d) t1 := by have h8 := fC_s w ro K d f t1; rw [rt_p hp1] at h8; omega
                              have hen : bI (nx t1 d = K) = nI 0 := bI_f (by unfold nx; rw [if_neg (by omega)]; omega)
                              have hl : lv_has ls 14 [(6, .int (bI (nx t1 d = K))), (10, .int (nI (t1 + 1))), (5, .int (nI (t1))), (4, .int (nI (nx t1 d))), (9, .int (nI 1)), (13, .int (nI (rtN w ro K d f t1))), (12, .int (nI ((7 * t1) + (nx t1 d)))), (11, .int (nI (mv w K ro f t1 d))), (0, .ref (ad 71)), (1, .int (nI (q0))), (2, .int (nI (q - fC w ro K d f t1))), (3, .int (nI (a1 + fC w ro K d f t1))), (7, .long (lN (fM w ro K d f 6)))] := by rw [hen]; exact hl
                              have hl : lv_has ls 14 [(6, .int (bI (nx t1 d = K))), (10, .int (nI (t1 + 1))), (5, .int (fr6 t1)), (4, .int (nI (nx t1 d))), (9, .int (nI 1)), (13, .int (nI (rtN w ro K d f t1))), (12, .int (nI ((7 * t1) + (nx t1 d)))), (11, .int (nI (mv w K ro f t1 d))), (0, .ref (ad 71)), (1, .int (nI (q0))), (2, .int (nI (q - fC w ro K d f t1))), (3, .int (nI (a1 + fC w ro K d f t1))), (7, .long (lN (fM w ro K d f 6)))] := by rw [show fr6 t1 = nI t1 from if_neg (by omega)]; exact hl
                              refine lv_goto (tgt := 38) hx hb dX6_layWay_378 (by decide) ?_
                              exact ih_38 (s1 + 1) (nx t1 d) t1 (q - fC w ro K d f t1) (a1 + fC w ro K d f t1) (up2 (up2 I1 81 s1 (nI t1)) 71 12 (nI (s1 + 1))) (up2 L1 71 13 ((L1 71 13) * (lN (mv w K ro f t1 d)))) (by omega) hfj hnj hq3 _ _ hW _ (lv_sub hl [8, 9, 10, 11, 3, 2, 0] rfl)
                            ·
                              refine lv_iload hx hb dX6_layWay_359 (lv_at hl 2 rfl) ?_
                              refine lv_aload_n hx hb dX6_layWay_361 rfl (lv_at hl 7 rfl) ?_
                              refine g_6_0 (x := 71) (y := 72) hC hW (by omega) kd_71 gw_483 (hlk 71 0 72 (by omega) rfl) dX6_layWay_362 ?_
                              refine q_bp 58 hx hb dX6_layWay_365 (by decide) ?_
                              refine q_iald (x := 72) (i := 58) hC hW (by omega) kd_72 (by omega) dX6_layWay_367 ?_
                              refine q_top (v2 := .int (nI (K))) (congrArg _ (by rw [up2_ne (by decide), up2_ne (by decide)]; exact hN1.2.1)) ?_
                              refine q_cne (tgt := 375) hx hb dX6_layWay_368 (by decide) (by first | omega | exact Nat.lt_of_le_of_lt (hw3 _) (by decide)) (by first | omega | exact Nat.lt_of_le_of_lt (hw3 _) (by decide)) (fun c_368 => ?_) (fun c_368 => ?_)
                              ·
                                refine q_ic 0 hx hb dX6_layWay_375 (by decide) ?_
                                refine lv_istore (lv' := [(6, .int (nI 0)), (10, .int (nI (t1 + 1))), (5, .int (nI (t1))), (4, .int (nI (nx t1 d))), (9, .int (nI 1)), (13, .int (nI (rtN w ro K d f t1))), (12, .int (nI ((7 * t1) + (nx t1 d)))), (11, .int (nI (mv w K ro f t1 d))), (0, .ref (ad 71)), (1, .int (nI (q0))), (2, .int (nI (q - fC w ro K d f t1))), (3, .int (nI (a1 + fC w ro K d f t1))), (7, .long (lN (fM w ro K d f 6)))]) hx hb dX6_layWay_376 hl (by decide) rfl (fun ls hl => ?_)
                                have hnj := NJ_s hw hNJ hdK (show t1 < 6 by omega) hp1
                                have hbs := byN_s (w := w) (r := ro) hs18 hdK (show t1 < 6 by omega) hc hq2
                                have hfj := FJ_s (hbs ▸ hF) hs18
                                have hq3 : q - fC w ro K d f t1 < Cx' w K ro (K - nx t1 d) t1 := by have h8 := fC_s w ro K d f t1; rw [rt_p hp1] at h8; omega
                                have hen : bI (nx t1 d = K) = nI 0 := bI_f (by omega)
                                have hl : lv_has ls 14 [(6, .int (bI (nx t1 d = K))), (10, .int (nI (t1 + 1))), (5, .int (nI (t1))), (4, .int (nI (nx t1 d))), (9, .int (nI 1)), (13, .int (nI (rtN w ro K d f t1))), (12, .int (nI ((7 * t1) + (nx t1 d)))), (11, .int (nI (mv w K ro f t1 d))), (0, .ref (ad 71)), (1, .int (nI (q0))), (2, .int (nI (q - fC w ro K d f t1))), (3, .int (nI (a1 + fC w ro K d f t1))), (7, .long (lN (fM w ro K d f 6)))] := by rw [hen]; exact hl
                                have hl : lv_has ls 14 [(6, .int (bI (nx t1 d = K))), (10, .int (nI (t1 + 1))), (5, .int (fr6 t1)), (4, .int (nI (nx t1 d))), (9, .int (nI 1)), (13, .int (nI (rtN w ro K d f t1))), (12, .int (nI ((7 * t1) + (nx t1 d)))), (11, .int (nI (mv w K ro f t1 d))), (0, .ref (ad 71)), (1, .int (nI (q0))), (2, .int (nI (q - fC w ro K d f t1))), (3, .int (nI (a1 + fC w ro K d f t1))), (7, .long (lN (fM w ro K d f 6)))] := by rw [show fr6 t1 = nI t1 from if_neg (by omega)]; exact hl
                                refine lv_goto (tgt := 38) hx hb dX6_layWay_378 (by decide) ?_
                                exact ih_38 (s1 + 1) (nx t1 d) t1 (q - fC w ro K d f t1) (a1 + fC w ro K d f t1) (up2 (up2 I1 81 s1 (nI t1)) 71 12 (nI (s1 + 1))) (up2 L1 71 13 ((L1 71 13) * (lN (mv w K ro f t1 d)))) (by omega) hfj hnj hq3 _ _ hW _ (lv_sub hl [8, 9, 10, 11, 3, 2, 0] rfl)
                              ·
                                refine q_ic 1 hx hb dX6_layWay_371 (by decide) ?_
                                refine lv_goto (tgt := 376) hx hb dX6_layWay_372 (by decide) ?_
                                refine lv_istore (lv' := [(6, .int (nI 1)), (10, .int (nI (t1 + 1))), (5, .int (nI (t1))), (4, .int (nI (nx t1 d))), (9, .int (nI 1)), (13, .int (nI (rtN w ro K d f t1))), (12, .int (nI ((7 * t1) + (nx t1 d)))), (11, .int (nI (mv w K ro f t1 d))), (0, .ref (ad 71)), (1, .int (nI (q0))), (2, .int (nI (q - fC w ro K d f t1))), (3, .int (nI (a1 + fC w ro K d f t1))), (7, .long (lN (fM w ro K d f 6)))]) hx hb dX6_layWay_376 hl (by decide) rfl (fun ls hl => ?_)
                                have hnj := NJ_s hw hNJ hdK (show t1 < 6 by omega) hp1
                                have hbs := byN_s (w := w) (r := ro) hs18 hdK (show t1 < 6 by omega) hc hq2
                                have hfj := FJ_s (hbs ▸ hF) hs18
                                have hq3 : q - fC w ro K d f t1 < Cx' w K ro (K - nx t1 d) t1 := by have h8 := fC_s w ro K d f t1; rw [rt_p hp1] at h8; omega
                                have hen : bI (nx t1 d = K) = nI 1 := bI_t (by omega)
                                have hl : lv_has ls 14 [(6, .int (bI (nx t1 d = K))), (10, .int (nI (t1 + 1))), (5, .int (nI (t1))), (4, .int (nI (nx t1 d))), (9, .int (nI 1)), (13, .int (nI (rtN w ro K d f t1))), (12, .int (nI ((7 * t1) + (nx t1 d)))), (11, .int (nI (mv w K ro f t1 d))), (0, .ref (ad 71)), (1, .int (nI (q0))), (2, .int (nI (q - fC w ro K d f t1))), (3, .int (nI (a1 + fC w ro K d f t1))), (7, .long (lN (fM w ro K d f 6)))] := by rw [hen]; exact hl
                                have hl : lv_has ls 14 [(6, .int (bI (nx t1 d = K))), (10, .int (nI (t1 + 1))), (5, .int (fr6 t1)), (4, .int (nI (nx t1 d))), (9, .int (nI 1)), (13, .int (nI (rtN w ro K d f t1))), (12, .int (nI ((7 * t1) + (nx t1 d)))), (11, .int (nI (mv w K ro f t1 d))), (0, .ref (ad 71)), (1, .int (nI (q0))), (2, .int (nI (q - fC w ro K d f t1))), (3, .int (nI (a1 + fC w ro K d f t1))), (7, .long (lN (fM w ro K d f 6)))] := by rw [show fr6 t1 = nI t1 from if_neg (by omega)]; exact hl
                                refine lv_goto (tgt := 38) hx hb dX6_layWay_378 (by decide) ?_
                                exact ih_38 (s1 + 1) (nx t1 d) t1 (q - fC w ro K d f t1) (a1 + fC w ro K d f t1) (up2 (up2 I1 81 s1 (nI t1)) 71 12 (nI (s1 + 1))) (up2 L1 71 13 ((L1 71 13) * (lN (mv w K ro f t1 d)))) (by omega) hfj hnj hq3 _ _ hW _ (lv_sub hl [8, 9, 10, 11, 3, 2, 0] rfl)
                  exact lp_153 (6 + 1) 0 (by omega) (by omega) (Nat.zero_le _) _ _ hW _ (lv_sub hl [2, 3, 4, 5, 6, 7, 8, 1, 0] rfl)
                ·
                  refine lv_aload_n hx hb dX6_layWay_56 rfl (lv_at hl 0 rfl) ?_
                  refine lv_iload hx hb dX6_layWay_57 (lv_at hl 5 rfl) ?_
                  refine lv_if_ge (tgt := 72) hx hb dX6_layWay_59 (by decide) (fun c_59 => ?_) (fun c_59 => absurd (Int32.not_lt.mp (nI_pos (by omega))) c_59)
                  refine lv_aload_n hx hb dX6_layWay_72 rfl (lv_at hl 0 rfl) ?_
                  refine lv_iload hx hb dX6_layWay_73 (lv_at hl 5 rfl) ?_
                  refine lv_iload hx hb dX6_layWay_75 (lv_at hl 7 rfl) ?_
                  refine q_kI0 (q_rV (As := [.int (nI (f)), .int (nI (t1))]) (rest := [.ref (ad 71)]) (x := 71) hC hW mw_X6_step gw_586 (k_step l G n ad H.size I1 L1 R _ _ (by omega) (by omega) w K ro hn hlk hN1) (by omega) (ct_o6 kd_71) rfl ⟨rfl, rfl⟩ ⟨Nat.le_of_ble_eq_true rfl, Nat.le_of_ble_eq_true rfl⟩ ⟨(Nat.le_of_ble_eq_true rfl), (Nat.le_of_ble_eq_true rfl)⟩ hl.1 rfl rfl (Nat.le_of_ble_eq_true rfl) dX6_layWay_77) hW (fun r_77 H locs hp hW => ?_)
                  subst hp
                  refine lv_iload hx hb dX6_layWay_80 (lv_at hl 7 rfl) ?_
                  refine lv_iload hx hb dX6_layWay_82 (lv_at hl 4 rfl) ?_
                  refine q_kI0 (q_rV (As := [.int (nI (w (f * 6 + t1))), .int (nI (t1)), .int (nI (d))]) (rest := []) (x := 71) hC hW mw_X6_going gw_590 (k_going l G n ad H.size I1 L1 R _ _ _ (hw3 _) (by omega) (by omega) w K ro hn hlk hN1) (by omega) (ct_o6 kd_71) rfl ⟨rfl, rfl⟩ ⟨Nat.le_of_ble_eq_true rfl, Nat.le_of_ble_eq_true rfl⟩ ⟨(Nat.le_of_ble_eq_true rfl), (Nat.le_of_ble_eq_true rfl)⟩ hl.1 rfl rfl (Nat.le_of_ble_eq_true rfl) dX6_layWay_84) hW (fun r_84 H locs hp hW => ?_)
                  subst hp
                  refine q_top (v2 := .int (nI (mv w K ro f t1 d))) rfl ?_
                  have hm9 := mv_le hw K ro f t1 d
                  refine q_i2l hx hb dX6_layWay_87 (by first | omega | exact Nat.lt_of_le_of_lt (hw3 _) (by decide)) ?_
                  refine lv_lstore (lv' := [(10, .long (lN (mv w K ro f t1 d))), (0, .ref (ad 71)), (1, .int (nI (q0))), (2, .int (nI (q))), (3, .int (nI (a1))), (4, .int (nI (d))), (5, .int (nI (f))), (7, .long (lN (fM w ro K d f t1))), (9, .int (nI (t1)))]) hx hb dX6_layWay_88 hl (by decide) rfl (fun ls hl => ?_)
                  refine lv_lload hx hb dX6_layWay_90 (lv_at hl 0 rfl) ?_
                  refine q_lc 0 hx hb dX6_layWay_92 (by decide) ?_
                  refine q_lcmp hx hb dX6_layWay_93 ?_
                  refine q_lle (tgt := 121) hx hb dX6_layWay_94 (by decide) (by first | decide | omega | assumption) (by first | decide | omega | assumption) (fun c_94 => ?_) (fun c_94 => ?_)
                  ·
                    have hz1 : mv w K ro f t1 d = 0 := by omega
                    refine q_lc 0 hx hb dX6_layWay_121 (by decide) ?_
                    refine lv_lstore (lv' := [(12, .long (lN 0)), (10, .long (lN (mv w K ro f t1 d))), (0, .ref (ad 71)), (1, .int (nI (q0))), (2, .int (nI (q))), (3, .int (nI (a1))), (4, .int (nI (d))), (5, .int (nI (f))), (7, .long (lN (fM w ro K d f t1))), (9, .int (nI (t1)))]) hx hb dX6_layWay_122 hl (by decide) rfl (fun ls hl => ?_)
                    refine lv_lload hx hb dX6_layWay_124 (lv_at hl 0 rfl) ?_
                    refine lv_lload hx hb dX6_layWay_126 (lv_at hl 8 rfl) ?_
                    refine q_lcmp hx hb dX6_layWay_128 ?_
                    refine q_lle (tgt := 137) hx hb dX6_layWay_129 (by decide) (by decide) (Nat.lt_of_le_of_lt (fM_b hw (r := ro) K d f t1 hk6) (by decide)) (fun c_129 => ?_) (fun c_129 => ?_)
                    ·
                      refine lv_lload hx hb dX6_layWay_137 (lv_at hl 8 rfl) ?_
                      refine q_top (v2 := .long (lN (fM w ro K d f (t1 + 1)))) (congrArg (fun z => Value.long (lN z)) (show fM w ro K d f t1 = fM w ro K d f (t1 + 1) from by have h9 := fM_n (w := w) (r := ro) (K := K) (d := d) (f := f) (i := t1) hz1; omega)) ?_
                      refine lv_lstore (lv' := [(7, .long (lN (fM w ro K d f (t1 + 1)))), (12, .long (lN 0)), (10, .long (lN (mv w K ro f t1 d))), (0, .ref (ad 71)), (1, .int (nI (q0))), (2, .int (nI (q))), (3, .int (nI (a1))), (4, .int (nI (d))), (5, .int (nI (f))), (9, .int (nI (t1)))]) hx hb dX6_layWay_139 hl (by decide) rfl (fun ls hl => ?_)
                      refine q_iinc (z2 := t1 + 1) (lv' := [(9, .int (nI (t1 + 1))), (7, .long (lN (fM w ro K d f (t1 + 1)))), (12, .long (lN 0)), (10, .long (lN (mv w K ro f t1 d))), (0, .ref (ad 71)), (1, .int (nI (q0))), (2, .int (nI (q))), (3, .int (nI (a1))), (4, .int (nI (d))), (5, .int (nI (f)))]) hx hb dX6_layWay_141 hl (k := 9) rfl (inc_up _ 1 (by decide)) (by decide) rfl (fun ls hl => ?_)
                      refine lv_goto (tgt := 49) hx hb dX6_layWay_144 (by decide) ?_
                      exact ih_49 (t1 + 1) (by omega) (by omega) _ _ hW _ (lv_sub hl [4, 5, 6, 7, 8, 9, 1, 0] rfl)
                    ·
                      refine lv_lload hx hb dX6_layWay_132 (lv_at hl 0 rfl) ?_
                      refine lv_goto (tgt := 139) hx hb dX6_layWay_134 (by decide) ?_
                      refine q_top (v2 := .long (lN (fM w ro K d f (t1 + 1)))) (congrArg (fun z => Value.long (lN z)) (show 0 = fM w ro K d f (t1 + 1) from by have h9 := fM_n (w := w) (r := ro) (K := K) (d := d) (f := f) (i := t1) hz1; omega)) ?_
                      refine lv_lstore (lv' := [(7, .long (lN (fM w ro K d f (t1 + 1)))), (12, .long (lN 0)), (10, .long (lN (mv w K ro f t1 d))), (0, .ref (ad 71)), (1, .int (nI (q0))), (2, .int (nI (q))), (3, .int (nI (a1))), (4, .int (nI (d))), (5, .int (nI (f))), (9, .int (nI (t1)))]) hx hb dX6_layWay_139 hl (by decide) rfl (fun ls hl => ?_)
                      refine q_iinc (z2 := t1 + 1) (lv' := [(9, .int (nI (t1 + 1))), (7, .long (lN (fM w ro K d f (t1 + 1)))), (12, .long (lN 0)), (10, .long (lN (mv w K ro f t1 d))), (0, .ref (ad 71)), (1, .int (nI (q0))), (2, .int (nI (q))), (3, .int (nI (a1))), (4, .int (nI (d))), (5, .int (nI (f)))]) hx hb dX6_layWay_141 hl (k := 9) rfl (inc_up _ 1 (by decide)) (by decide) rfl (fun ls hl => ?_)
                      refine lv_goto (tgt := 49) hx hb dX6_layWay_144 (by decide) ?_
                      exact ih_49 (t1 + 1) (by omega) (by omega) _ _ hW _ (lv_sub hl [4, 5, 6, 7, 8, 9, 1, 0] rfl)
                  ·
                    have hp1 : 0 < mv w K ro f t1 d := by omega
                    have hnx : nx t1 d ≤ K := nx_K2 hp1 (by omega)
                    have hmb := mM_lt hw (r := ro) K d f t1 hk6
                    refine lv_lload hx hb dX6_layWay_97 (lv_at hl 0 rfl) ?_
                    refine lv_aload_n hx hb dX6_layWay_99 rfl (lv_at hl 1 rfl) ?_
                    refine g_6_10 (x := 71) (y := 80) hC hW (by omega) kd_71 gw_493 (hlk 71 10 80 (by omega) rfl) dX6_layWay_100 ?_
                    refine q_bp 7 hx hb dX6_layWay_103 (by decide) ?_
                    refine lv_iload hx hb dX6_layWay_105 (lv_at hl 8 rfl) ?_
                    refine q_imul hx hb dX6_layWay_107 ?_
                    refine lv_iload hx hb dX6_layWay_108 (lv_at hl 8 rfl) ?_
                    refine lv_iload hx hb dX6_layWay_110 (lv_at hl 5 rfl) ?_
                    refine q_kI0 (q_rS (As := [.int (nI (t1)), .int (nI (d))]) (rest := [.int (nI (7 * t1)), .ref (ad 80), .long (lN (mv w K ro f t1 d))]) hC hW mw_X6_toldThen gw_598 (k_toldThen l G n ad H.size I1 L1 R _ _ (by omega) (by omega)) ⟨rfl, rfl⟩ ⟨Nat.le_of_ble_eq_true rfl, Nat.le_of_ble_eq_true rfl⟩ ⟨(Nat.le_of_ble_eq_true rfl), (Nat.le_of_ble_eq_true rfl)⟩ hl.1 rfl rfl (Nat.le_of_ble_eq_true rfl) dX6_layWay_112) hW (fun r_112 H locs hp hW => ?_)
                    subst hp
                    refine q_iadd hx hb dX6_layWay_115 ?_
                    refine q_lald (x := 80) (i := (7 * t1) + (nx t1 d)) hC hW (by omega) kd_80 (by omega) dX6_layWay_116 ?_
                    refine q_top (v2 := .long (lN (Mx' w K ro (K - (nx t1 d)) t1))) (congrArg _ (hB1 (nx t1 d) t1 (by omega) hnx (by omega)).2.1) ?_
                    refine q_lmul hx hb dX6_layWay_117 ?_
                    refine lv_goto (tgt := 122) hx hb dX6_layWay_118 (by decide) ?_
                    refine lv_lstore (lv' := [(12, .long (lN ((mv w K ro f t1 d) * (Mx' w K ro (K - (nx t1 d)) t1)))), (10, .long (lN (mv w K ro f t1 d))), (0, .ref (ad 71)), (1, .int (nI (q0))), (2, .int (nI (q))), (3, .int (nI (a1))), (4, .int (nI (d))), (5, .int (nI (f))), (7, .long (lN (fM w ro K d f t1))), (9, .int (nI (t1)))]) hx hb dX6_layWay_122 hl (by decide) rfl (fun ls hl => ?_)
                    refine lv_lload hx hb dX6_layWay_124 (lv_at hl 0 rfl) ?_
                    refine lv_lload hx hb dX6_layWay_126 (lv_at hl 8 rfl) ?_
                    refine q_lcmp hx hb dX6_layWay_128 ?_
                    refine q_lle (tgt := 137) hx hb dX6_layWay_129 (by decide) hmb (Nat.lt_of_le_of_lt (fM_b hw (r := ro) K d f t1 hk6) (by decide)) (fun c_129 => ?_) (fun c_129 => ?_)
                    ·
                      refine lv_lload hx hb dX6_layWay_137 (lv_at hl 8 rfl) ?_
                      refine q_top (v2 := .long (lN (fM w ro K d f (t1 + 1)))) (congrArg (fun z => Value.long (lN z)) (show fM w ro K d f t1 = fM w ro K d f (t1 + 1) from by have h9 := fM_p (w := w) (r := ro) (K := K) (d := d) (f := f) (i := t1) hp1; omega)) ?_
                      refine lv_lstore (lv' := [(7, .long (lN (fM w ro K d f (t1 + 1)))), (12, .long (lN ((mv w K ro f t1 d) * (Mx' w K ro (K - (nx t1 d)) t1)))), (10, .long (lN (mv w K ro f t1 d))), (0, .ref (ad 71)), (1, .int (nI (q0))), (2, .int (nI (q))), (3, .int (nI (a1))), (4, .int (nI (d))), (5, .int (nI (f))), (9, .int (nI (t1)))]) hx hb dX6_layWay_139 hl (by decide) rfl (fun ls hl => ?_)
                      refine q_iinc (z2 := t1 + 1) (lv' := [(9, .int (nI (t1 + 1))), (7, .long (lN (fM w ro K d f (t1 + 1)))), (12, .long (lN ((mv w K ro f t1 d) * (Mx' w K ro (K - (nx t1 d)) t1)))), (10, .long (lN (mv w K ro f t1 d))), (0, .ref (ad 71)), (1, .int (nI (q0))), (2, .int (nI (q))), (3, .int (nI (a1))), (4, .int (nI (d))), (5, .int (nI (f)))]) hx hb dX6_layWay_141 hl (k := 9) rfl (inc_up _ 1 (by decide)) (by decide) rfl (fun ls hl => ?_)
                      refine lv_goto (tgt := 49) hx hb dX6_layWay_144 (by decide) ?_
                      exact ih_49 (t1 + 1) (by omega) (by omega) _ _ hW _ (lv_sub hl [4, 5, 6, 7, 8, 9, 1, 0] rfl)
                    ·
                      refine lv_lload hx hb dX6_layWay_132 (lv_at hl 0 rfl) ?_
                      refine lv_goto (tgt := 139) hx hb dX6_layWay_134 (by decide) ?_
                      refine q_top (v2 := .long (lN (fM w ro K d f (t1 + 1)))) (congrArg (fun z => Value.long (lN z)) (show (mv w K ro f t1 d) * (Mx' w K ro (K - (nx t1 d)) t1) = fM w ro K d f (t1 + 1) from by have h9 := fM_p (w := w) (r := ro) (K := K) (d := d) (f := f) (i := t1) hp1; omega)) ?_
                      refine lv_lstore (lv' := [(7, .long (lN (fM w ro K d f (t1 + 1)))), (12, .long (lN ((mv w K ro f t1 d) * (Mx' w K ro (K - (nx t1 d)) t1)))), (10, .long (lN (mv w K ro f t1 d))), (0, .ref (ad 71)), (1, .int (nI (q0))), (2, .int (nI (q))), (3, .int (nI (a1))), (4, .int (nI (d))), (5, .int (nI (f))), (9, .int (nI (t1)))]) hx hb dX6_layWay_139 hl (by decide) rfl (fun ls hl => ?_)
                      refine q_iinc (z2 := t1 + 1) (lv' := [(9, .int (nI (t1 + 1))), (7, .long (lN (fM w ro K d f (t1 + 1)))), (12, .long (lN ((mv w K ro f t1 d) * (Mx' w K ro (K - (nx t1 d)) t1)))), (10, .long (lN (mv w K ro f t1 d))), (0, .ref (ad 71)), (1, .int (nI (q0))), (2, .int (nI (q))), (3, .int (nI (a1))), (4, .int (nI (d))), (5, .int (nI (f)))]) hx hb dX6_layWay_141 hl (k := 9) rfl (inc_up _ 1 (by decide)) (by decide) rfl (fun ls hl => ?_)
                      refine lv_goto (tgt := 49) hx hb dX6_layWay_144 (by decide) ?_
                      exact ih_49 (t1 + 1) (by omega) (by omega) _ _ hW _ (lv_sub hl [4, 5, 6, 7, 8, 9, 1, 0] rfl)
            exact lp_49 (6 + 1) 0 (by omega) (by omega) _ _ hW _ (lv_sub hl [2, 3, 4, 5, 6, 7, 1, 0] rfl)
        ·
          have e6 : f = 6 := by have h9 := hNJ.2.2; omega
          subst e6
          have hl : lv_has ls 14 [(0, .ref (ad 71)), (1, .int (nI (q0))), (2, .int (nI (q))), (3, .int (nI (a1))), (4, .int (nI (d))), (5, .int (-6)), (6, .int (bI (d = K)))] := hl
          refine lv_iload hx hb dX6_layWay_38 (lv_at hl 6 rfl) ?_
          refine lv_if_ne (tgt := 381) hx hb dX6_layWay_40 (by decide) (fun c_40 => ?_) (fun c_40 => ?_)
          ·
            have hdK : d = K := bI_1 (p := d = K) c_40
            refine lv_iload_n hx hb dX6_layWay_381 rfl (lv_at hl 3 rfl) ?_
            exact q_iret1 hC hW hr hlk0 ⟨FJ_e hF (byN_e (by omega)) (by have h9 := hNJ.1; omega), hF.2.2.1, hF.2.2.2.1, hF.2.2.2.2⟩ dX6_layWay_382
          ·
            have hdn : ¬ d = K := bI_0 (p := d = K) c_40
            have hdK : d < K := by have h9 := hNJ.2.1; omega
            have hs18 : s1 < 18 := NJ_lt hNJ hk6 hdK
            have hMf : fM w ro K d 6 6 = Mx' w K ro (K - d) 6 := (Mx_f hw K d 6 hdK).symm
            have hCf : Cx' w K ro (K - d) 6 = fC w ro K d 6 6 := Cx_f hw K d 6 hdK
            have hCb := Cx_b hw (r := ro) K (K - d) 6 (by omega)
            refine q_lc 0 hx hb dX6_layWay_43 (by decide) ?_
            refine lv_lstore (lv' := [(7, .long (lN 0)), (0, .ref (ad 71)), (1, .int (nI (q0))), (2, .int (nI (q))), (3, .int (nI (a1))), (4, .int (nI (d))), (5, .int (-6)), (6, .int (bI (d = K)))]) hx hb dX6_layWay_44 hl (by decide) rfl (fun ls hl => ?_)
            refine q_ic 0 hx hb dX6_layWay_46 (by decide) ?_
            refine lv_istore (lv' := [(9, .int (nI 0)), (7, .long (lN 0)), (0, .ref (ad 71)), (1, .int (nI (q0))), (2, .int (nI (q))), (3, .int (nI (a1))), (4, .int (nI (d))), (5, .int (-6)), (6, .int (bI (d = K)))]) hx hb dX6_layWay_47 hl (by decide) rfl (fun ls hl => ?_)
            have lp_49 : ∀ (fu_49 : Nat) (t1 : Nat), 6 - t1 < fu_49 → (t1 ≤ 6) → ∀ (H : Heap) (locs : List Loc), Wd G n ad I1 L1 R (qA n ad s.heap.size) s.heap H locs s → ∀ ls : Array Slot, lv_has ls 14 [(0, .ref (ad 71)), (1, .int (nI (q0))), (2, .int (nI (q))), (3, .int (nI (a1))), (4, .int (nI (d))), (5, .int (-6)), (7, .long (lN (fM w ro K d 6 t1))), (9, .int (nI (t1)))] → W p_ l e_ ({ frames := 2, cells := 0, slots := 0, locals := 72 } : Room) s m_ ([.ref (ad 71), .int (nI (q0))] : List Value).toArray below meth c_ H locs 0 0 (MQ below (qI1 G (qA n ad s.heap.size) n ad R (fun z I1 L1 => FoB (wayN w ro K q0) (prN w ro K 0 6 (wayN w ro K q0)) I1 L1 ∧ (∀ a, a ≠ 71 → a ≠ 81 → I1 a = I a) ∧ (∀ j, j ≠ 12 → I1 71 j = I 71 j) ∧ (∀ a, a ≠ 71 → L1 a = L a))) ([.ref (ad 71), .int (nI (q0))] : List Value).toArray s 0 0 (qA n ad s.heap.size)) (F0 m_ 49 ls []) := by
              intro fu_49
              induction fu_49 with
              | zero =>
                intro t1 hm; exact absurd hm (Nat.not_lt_zero _)
              | succ fu_49 ih_49 =>
                intro t1 hm_49 ht6 H locs hW ls hl
                refine lv_iload hx hb dX6_layWay_49 (lv_at hl 7 rfl) ?_
                refine q_bp 6 hx hb dX6_layWay_51 (by decide) ?_
                refine q_cge (tgt := 147) hx hb dX6_layWay_53 (by decide) (by first | omega | exact Nat.lt_of_le_of_lt (hw3 _) (by decide)) (by first | omega | exact Nat.lt_of_le_of_lt (hw3 _) (by decide)) (fun c_53 => ?_) (fun c_53 => ?_)
                ·
                  have e6 : t1 = 6 := by omega
                  subst e6
                  refine q_ic 0 hx hb dX6_layWay_147 (by decide) ?_
                  refine lv_istore (lv' := [(9, .int (nI 0)), (0, .ref (ad 71)), (1, .int (nI (q0))), (2, .int (nI (q))), (3, .int (nI (a1))), (4, .int (nI (d))), (5, .int (-6)), (7, .long (lN (fM w ro K d 6 6)))]) hx hb dX6_layWay_148 hl (by decide) rfl (fun ls hl => ?_)
                  refine q_ic 0 hx hb dX6_layWay_150 (by decide) ?_
                  refine lv_istore (lv' := [(10, .int (nI 0)), (9, .int (nI 0)), (0, .ref (ad 71)), (1, .int (nI (q0))), (2, .int (nI (q))), (3, .int (nI (a1))), (4, .int (nI (d))), (5, .int (-6)), (7, .long (lN (fM w ro K d 6 6)))]) hx hb dX6_layWay_151 hl (by decide) rfl (fun ls hl => ?_)
                  have lp_153 : ∀ (fu_153 : Nat) (t1 : Nat), 6 - t1 < fu_153 → (t1 ≤ 6) → (fC w ro K d 6 t1 ≤ q) → ∀ (H : Heap) (locs : List Loc), Wd G n ad I1 L1 R (qA n ad s.heap.size) s.heap H locs s → ∀ ls : Array Slot, lv_has ls 14 [(0, .ref (ad 71)), (1, .int (nI (q0))), (2, .int (nI (q - fC w ro K d 6 t1))), (3, .int (nI (a1 + fC w ro K d 6 t1))), (4, .int (nI (d))), (5, .int (-6)), (7, .long (lN (fM w ro K d 6 6))), (9, .int (nI 0)), (10, .int (nI (t1)))] → W p_ l e_ ({ frames := 2, cells := 0, slots := 0, locals := 72 } : Room) s m_ ([.ref (ad 71), .int (nI (q0))] : List Value).toArray below meth c_ H locs 0 0 (MQ below (qI1 G (qA n ad s.heap.size) n ad R (fun z I1 L1 => FoB (wayN w ro K q0) (prN w ro K 0 6 (wayN w ro K q0)) I1 L1 ∧ (∀ a, a ≠ 71 → a ≠ 81 → I1 a = I a) ∧ (∀ j, j ≠ 12 → I1 71 j = I 71 j) ∧ (∀ a, a ≠ 71 → L1 a = L a))) ([.ref (ad 71), .int (nI (q0))] : List Value).toArray s 0 0 (qA n ad s.heap.size)) (F0 m_ 153 ls []) := by
                    intro fu_153
                    induction fu_153 with
                    | zero =>
                      intro t1 hm; exact absurd hm (Nat.not_lt_zero _)
                    | succ fu_153 ih_153 =>
                      intro t1 hm_153 ht6 hc H locs hW ls hl
                      refine lv_iload hx hb dX6_layWay_153 (lv_at hl 8 rfl) ?_
                      refine q_bp 6 hx hb dX6_layWay_155 (by decide) ?_
                      refine q_cge (tgt := 353) hx hb dX6_layWay_157 (by decide) (by first | omega | exact Nat.lt_of_le_of_lt (hw3 _) (by decide)) (by first | omega | exact Nat.lt_of_le_of_lt (hw3 _) (by decide)) (fun c_157 => absurd c_157 (fun q9 => by have e9 : fC w ro K d 6 t1 = fC w ro K d 6 6 := (by rw [show t1 = 6 by omega]); omega)) (fun c_157 => ?_)
                      refine lv_iload hx hb dX6_layWay_160 (lv_at hl 7 rfl) ?_
                      refine q_ine (tgt := 353) hx hb dX6_layWay_162 (by decide) (by first | omega | exact Nat.lt_of_le_of_lt (hw3 _) (by decide)) (fun c_162 => absurd c_162 (by decide)) (fun c_162 => ?_)
                      refine lv_aload_n hx hb dX6_layWay_165 rfl (lv_at hl 0 rfl) ?_
                      refine lv_iload hx hb dX6_layWay_166 (lv_at hl 5 rfl) ?_
                      refine lv_if_ge (tgt := 181) hx hb dX6_layWay_168 (by decide) (fun c_168 => absurd c_168 (by decide)) (fun c_168 => ?_)
                      refine lv_aload_n hx hb dX6_layWay_171 rfl (lv_at hl 0 rfl) ?_
                      refine g_6_0 (x := 71) (y := 72) hC hW (by omega) kd_71 gw_483 (hlk 71 0 72 (by omega) rfl) dX6_layWay_172 ?_
                      refine lv_iload hx hb dX6_layWay_175 (lv_at hl 8 rfl) ?_
                      refine q_iald (x := 72) (i := t1) hC hW (by omega) kd_72 (by omega) dX6_layWay_177 ?_
                      refine q_top (v2 := .int (nI (w (6 * 6 + t1)))) (congrArg _ ((hN1.1 _ (by omega)).trans (congrArg nI (rwt_b w (by omega))))) ?_
                      refine lv_goto (tgt := 189) hx hb dX6_layWay_178 (by decide) ?_
                      refine lv_iload hx hb dX6_layWay_189 (lv_at hl 8 rfl) ?_
                      refine lv_iload hx hb dX6_layWay_191 (lv_at hl 4 rfl) ?_
                      refine q_kI0 (q_rV (As := [.int (nI (w (6 * 6 + t1))), .int (nI (t1)), .int (nI (d))]) (rest := []) (x := 71) hC hW mw_X6_going gw_590 (k_going l G n ad H.size I1 L1 R _ _ _ (hw3 _) (by omega) (by omega) w K ro hn hlk hN1) (by omega) (ct_o6 kd_71) rfl ⟨rfl, rfl⟩ ⟨Nat.le_of_ble_eq_true rfl, Nat.le_of_ble_eq_true rfl⟩ ⟨(Nat.le_of_ble_eq_true rfl), (Nat.le_of_ble_eq_true rfl)⟩ hl.1 rfl rfl (Nat.le_of_ble_eq_true rfl) dX6_layWay_193) hW (fun r_193 H locs hp hW => ?_)
                      subst hp
                      refine q_top (v2 := .int (nI (mv w K ro 6 t1 d))) rfl ?_
                      have hm9 := mv_le hw K ro 6 t1 d
                      refine lv_istore (lv' := [(11, .int (nI (mv w K ro 6 t1 d))), (0, .ref (ad 71)), (1, .int (nI (q0))), (2, .int (nI (q - fC w ro K d 6 t1))), (3, .int (nI (a1 + fC w ro K d 6 t1))), (4, .int (nI (d))), (5, .int (-6)), (7, .long (lN (fM w ro K d 6 6))), (9, .int (nI 0)), (10, .int (nI (t1)))]) hx hb dX6_layWay_196 hl (by decide) rfl (fun ls hl => ?_)
                      refine q_bp 7 hx hb dX6_layWay_198 (by decide) ?_
                      refine lv_iload hx hb dX6_layWay_200 (lv_at hl 9 rfl) ?_
                      refine q_imul hx hb dX6_layWay_202 ?_
                      refine lv_iload hx hb dX6_layWay_203 (lv_at hl 9 rfl) ?_
                      refine lv_iload hx hb dX6_layWay_205 (lv_at hl 5 rfl) ?_
                      refine q_kI0 (q_rS (As := [.int (nI (t1)), .int (nI (d))]) (rest := [.int (nI (7 * t1))]) hC hW mw_X6_toldThen gw_598 (k_toldThen l G n ad H.size I1 L1 R _ _ (by omega) (by omega)) ⟨rfl, rfl⟩ ⟨Nat.le_of_ble_eq_true rfl, Nat.le_of_ble_eq_true rfl⟩ ⟨(Nat.le_of_ble_eq_true rfl), (Nat.le_of_ble_eq_true rfl)⟩ hl.1 rfl rfl (Nat.le_of_ble_eq_true rfl) dX6_layWay_207) hW (fun r_207 H locs hp hW => ?_)
                      subst hp
                      refine q_iadd hx hb dX6_layWay_210 ?_
                      refine lv_istore (lv' := [(12, .int (nI ((7 * t1) + (nx t1 d)))), (11, .int (nI (mv w K ro 6 t1 d))), (0, .ref (ad 71)), (1, .int (nI (q0))), (2, .int (nI (q - fC w ro K d 6 t1))), (3, .int (nI (a1 + fC w ro K d 6 t1))), (4, .int (nI (d))), (5, .int (-6)), (7, .long (lN (fM w ro K d 6 6))), (9, .int (nI 0)), (10, .int (nI (t1)))]) hx hb dX6_layWay_211 hl (by decide) rfl (fun ls hl => ?_)
                      refine lv_iload hx hb dX6_layWay_213 (lv_at hl 1 rfl) ?_
                      refine q_ile (tgt := 228) hx hb dX6_layWay_215 (by decide) (by first | omega | exact Nat.lt_of_le_of_lt (hw3 _) (by decide)) (fun c_215 => ?_) (fun c_215 => ?_)
                      ·
                        have hz1 : mv w K ro 6 t1 d = 0 := by omega
                        refine q_ic 0 hx hb dX6_layWay_228 (by decide) ?_
                        have hrb := rtN_b hw (r := ro) (K := K) (d := d) (f := 6) (t := t1) hk6
                        refine q_top (v2 := .int (nI (rtN w ro K d 6 t1))) (by rw [rt_n hz1]) ?_
                        refine lv_istore (lv' := [(13, .int (nI (rtN w ro K d 6 t1))), (12, .int (nI ((7 * t1) + (nx t1 d)))), (11, .int (nI (mv w K ro 6 t1 d))), (0, .ref (ad 71)), (1, .int (nI (q0))), (2, .int (nI (q - fC w ro K d 6 t1))), (3, .int (nI (a1 + fC w ro K d 6 t1))), (4, .int (nI (d))), (5, .int (-6)), (7, .long (lN (fM w ro K d 6 6))), (9, .int (nI 0)), (10, .int (nI (t1)))]) hx hb dX6_layWay_229 hl (by decide) rfl (fun ls hl => ?_)
                        refine lv_iload_n hx hb dX6_layWay_231 rfl (lv_at hl 4 rfl) ?_
                        refine lv_if_ge (tgt := 270) hx hb dX6_layWay_232 (by decide) (fun c_232 => ?_) (fun c_232 => absurd (Int32.not_lt.mp (nI_pos (by omega))) c_232)
                        refine lv_iload_n hx hb dX6_layWay_270 rfl (lv_at hl 5 rfl) ?_
                        refine lv_iload hx hb dX6_layWay_271 (lv_at hl 0 rfl) ?_
                        refine q_cge (tgt := 280) hx hb dX6_layWay_273 (by decide) (by first | omega | exact Nat.lt_of_le_of_lt (hw3 _) (by decide)) (by first | omega | exact Nat.lt_of_le_of_lt (hw3 _) (by decide)) (fun c_273 => ?_) (fun c_273 => ?_)
                        ·
                          refine q_ic 0 hx hb dX6_layWay_280 (by decide) ?_
                          refine lv_istore (lv' := [(9, .int (nI 0)), (13, .int (nI (rtN w ro K d 6 t1))), (12, .int (nI ((7 * t1) + (nx t1 d)))), (11, .int (nI (mv w K ro 6 t1 d))), (0, .ref (ad 71)), (1, .int (nI (q0))), (2, .int (nI (q - fC w ro K d 6 t1))), (3, .int (nI (a1 + fC w ro K d 6 t1))), (4, .int (nI (d))), (5, .int (-6)), (7, .long (lN (fM w ro K d 6 6))), (10, .int (nI (t1)))]) hx hb dX6_layWay_281 hl (by decide) rfl (fun ls hl => ?_)
                          refine lv_iload hx hb dX6_layWay_283 (lv_at hl 0 rfl) ?_
                          refine q_ieq (tgt := 337) hx hb dX6_layWay_285 (by decide) (by first | omega | exact Nat.lt_of_le_of_lt (hw3 _) (by decide)) (fun c_285 => ?_) (fun c_285 => absurd c_285 (by decide))
                          refine lv_iload_n hx hb dX6_layWay_337 rfl (lv_at hl 6 rfl) ?_
                          refine lv_iload hx hb dX6_layWay_338 (lv_at hl 1 rfl) ?_
                          refine q_isub hx hb dX6_layWay_340 (by omega) ?_
                          refine q_top (v2 := .int (nI (q - fC w ro K d 6 (t1 + 1)))) (by rw [fC_s, Nat.sub_add_eq]) ?_
                          refine lv_istore_n (lv' := [(2, .int (nI (q - fC w ro K d 6 (t1 + 1)))), (9, .int (nI 0)), (13, .int (nI (rtN w ro K d 6 t1))), (12, .int (nI ((7 * t1) + (nx t1 d)))), (11, .int (nI (mv w K ro 6 t1 d))), (0, .ref (ad 71)), (1, .int (nI (q0))), (3, .int (nI (a1 + fC w ro K d 6 t1))), (4, .int (nI (d))), (5, .int (-6)), (7, .long (lN (fM w ro K d 6 6))), (10, .int (nI (t1)))]) hx hb dX6_layWay_341 rfl hl (by decide) rfl (fun ls hl => ?_)
                          refine lv_iload_n hx hb dX6_layWay_342 rfl (lv_at hl 7 rfl) ?_
                          refine lv_iload hx hb dX6_layWay_343 (lv_at hl 2 rfl) ?_
                          refine q_iadd hx hb dX6_layWay_345 ?_
                          refine q_top (v2 := .int (nI (a1 + fC w ro K d 6 (t1 + 1)))) (by rw [fC_s, Nat.add_assoc]) ?_
                          refine lv_istore_n (lv' := [(3, .int (nI (a1 + fC w ro K d 6 (t1 + 1)))), (2, .int (nI (q - fC w ro K d 6 (t1 + 1)))), (9, .int (nI 0)), (13, .int (nI (rtN w ro K d 6 t1))), (12, .int (nI ((7 * t1) + (nx t1 d)))), (11, .int (nI (mv w K ro 6 t1 d))), (0, .ref (ad 71)), (1, .int (nI (q0))), (4, .int (nI (d))), (5, .int (-6)), (7, .long (lN (fM w ro K d 6 6))), (10, .int (nI (t1)))]) hx hb dX6_layWay_346 rfl hl (by decide) rfl (fun ls hl => ?_)
                          refine q_iinc (z2 := t1 + 1) (lv' := [(10, .int (nI (t1 + 1))), (3, .int (nI (a1 + fC w ro K d 6 (t1 + 1)))), (2, .int (nI (q - fC w ro K d 6 (t1 + 1)))), (9, .int (nI 0)), (13, .int (nI (rtN w ro K d 6 t1))), (12, .int (nI ((7 * t1) + (nx t1 d)))), (11, .int (nI (mv w K ro 6 t1 d))), (0, .ref (ad 71)), (1, .int (nI (q0))), (4, .int (nI (d))), (5, .int (-6)), (7, .long (lN (fM w ro K d 6 6)))]) hx hb dX6_layWay_347 hl (k := 11) rfl (inc_up _ 1 (by decide)) (by decide) rfl (fun ls hl => ?_)
                          refine lv_goto (tgt := 153) hx hb dX6_layWay_350 (by decide) ?_
                          exact ih_153 (t1 + 1) (by omega) (by omega) (by rw [fC_s]; omega) _ _ hW _ (lv_sub hl [7, 8, 2, 1, 9, 10, 11, 3, 0] rfl)
                        ·
                          refine q_ic 1 hx hb dX6_layWay_276 (by decide) ?_
                          refine lv_goto (tgt := 281) hx hb dX6_layWay_277 (by decide) ?_
                          have hq2 : q < fC w ro K d 6 (t1 + 1) := by rw [fC_s]; omega
                          have hp1 : 0 < mv w K ro 6 t1 d := (rt_step (by omega : 0 < rtN w ro K d 6 t1)).1
                          refine lv_istore (lv' := [(9, .int (nI 1)), (13, .int (nI (rtN w ro K d 6 t1))), (12, .int (nI ((7 * t1) + (nx t1 d)))), (11, .int (nI (mv w K ro 6 t1 d))), (0, .ref (ad 71)), (1, .int (nI (q0))), (2, .int (nI (q - fC w ro K d 6 t1))), (3, .int (nI (a1 + fC w ro K d 6 t1))), (4, .int (nI (d))), (5, .int (-6)), (7, .long (lN (fM w ro K d 6 6))), (10, .int (nI (t1)))]) hx hb dX6_layWay_281 hl (by decide) rfl (fun ls hl => ?_)
                          refine lv_iload hx hb dX6_layWay_283 (lv_at hl 0 rfl) ?_
                          refine q_ieq (tgt := 337) hx hb dX6_layWay_285 (by decide) (by first | omega | exact Nat.lt_of_le_of_lt (hw3 _) (by decide)) (fun c_285 => absurd c_285 (by decide)) (fun c_285 => ?_)
                          refine lv_aload_n hx hb dX6_layWay_288 rfl (lv_at hl 4 rfl) ?_
                          refine g_6_11 (x := 71) (y := 81) hC hW (by omega) kd_71 gw_494 (hlk 71 11 81 (by omega) rfl) dX6_layWay_289 ?_
                          refine lv_aload_n hx hb dX6_layWay_292 rfl (lv_at hl 4 rfl) ?_
                          refine g_6_12 (x := 71) hC hW (by omega) kd_71 gw_495 dX6_layWay_293 ?_
                          refine q_top (v2 := .int (nI (s1))) (congrArg _ hF.2.1) ?_
                          refine lv_iload hx hb dX6_layWay_296 (lv_at hl 11 rfl) ?_
                          refine q_iast (x := 81) (i := s1) (v := nI t1) hC hW (by omega) kd_81 (by omega) dX6_layWay_298 (fun H locs hW => ?_)
                          refine lv_aload_n hx hb dX6_layWay_299 rfl (lv_at hl 4 rfl) ?_
                          refine lv_dup hx hb dX6_layWay_300 rfl ?_
                          refine g_6_12 (x := 71) hC hW (by omega) kd_71 gw_495 dX6_layWay_301 ?_
                          refine q_top (v2 := .int (nI (s1))) (congrArg _ (by rw [up2_ne (by decide)]; exact hF.2.1)) ?_
                          refine q_ic 1 hx hb dX6_layWay_304 (by decide) ?_
                          refine q_iadd hx hb dX6_layWay_305 ?_
                          refine p_6_12 (x := 71) (v := nI (s1 + 1)) hC hW (by omega) kd_71 gw_495 dX6_layWay_306 (fun H locs hW => ?_)
                          refine lv_aload_n hx hb dX6_layWay_309 rfl (lv_at hl 4 rfl) ?_
                          refine lv_dup hx hb dX6_layWay_310 rfl ?_
                          refine g_6_13 (x := 71) hC hW (by omega) kd_71 gw_496 dX6_layWay_311 ?_
                          refine lv_iload hx hb dX6_layWay_314 (lv_at hl 3 rfl) ?_
                          refine q_i2l hx hb dX6_layWay_316 (by first | omega | exact Nat.lt_of_le_of_lt (hw3 _) (by decide)) ?_
                          refine lv_lmul hx hb dX6_layWay_317 ?_
                          refine p_6_13 (x := 71) (v := (L1 71 13) * (lN (mv w K ro 6 t1 d))) hC hW (by omega) kd_71 gw_496 dX6_layWay_318 (fun H locs hW => ?_)
                          refine lv_iload hx hb dX6_layWay_321 (lv_at hl 11 rfl) ?_
                          refine lv_iload hx hb dX6_layWay_323 (lv_at hl 8 rfl) ?_
                          refine q_kI0 (q_rS (As := [.int (nI (t1)), .int (nI (d))]) (rest := []) hC hW mw_X6_toldThen gw_598 (k_toldThen l G n ad H.size (up2 (up2 I1 81 s1 (nI t1)) 71 12 (nI (s1 + 1))) (up2 L1 71 13 ((L1 71 13) * (lN (mv w K ro 6 t1 d)))) R _ _ (by omega) (by omega)) ⟨rfl, rfl⟩ ⟨Nat.le_of_ble_eq_true rfl, Nat.le_of_ble_eq_true rfl⟩ ⟨(Nat.le_of_ble_eq_true rfl), (Nat.le_of_ble_eq_true rfl)⟩ hl.1 rfl rfl (Nat.le_of_ble_eq_true rfl) dX6_layWay_325) hW (fun r_325 H locs hp hW => ?_)
                          subst hp
                          refine lv_istore (lv' := [(4, .int (nI (nx t1 d))), (9, .int (nI 1)), (13, .int (nI (rtN w ro K d 6 t1))), (12, .int (nI ((7 * t1) + (nx t1 d)))), (11, .int (nI (mv w K ro 6 t1 d))), (0, .ref (ad 71)), (1, .int (nI (q0))), (2, .int (nI (q - fC w ro K d 6 t1))), (3, .int (nI (a1 + fC w ro K d 6 t1))), (5, .int (-6)), (7, .long (lN (fM w ro K d 6 6))), (10, .int (nI (t1)))]) hx hb dX6_layWay_328 hl (by decide) rfl (fun ls hl => ?_)
                          refine lv_iload hx hb dX6_layWay_330 (lv_at hl 11 rfl) ?_
                          refine lv_istore (lv' := [(5, .int (nI (t1))), (4, .int (nI (nx t1 d))), (9, .int (nI 1)), (13, .int (nI (rtN w ro K d 6 t1))), (12, .int (nI ((7 * t1) + (nx t1 d)))), (11, .int (nI (mv w K ro 6 t1 d))), (0, .ref (ad 71)), (1, .int (nI (q0))), (2, .int (nI (q - fC w ro K d 6 t1))), (3, .int (nI (a1 + fC w ro K d 6 t1))), (7, .long (lN (fM w ro K d 6 6))), (10, .int (nI (t1)))]) hx hb dX6_layWay_332 hl (by decide) rfl (fun ls hl => ?_)
                          refine lv_goto (tgt := 347) hx hb dX6_layWay_334 (by decide) ?_
                          refine q_iinc (z2 := t1 + 1) (lv' := [(10, .int (nI (t1 + 1))), (5, .int (nI (t1))), (4, .int (nI (nx t1 d))), (9, .int (nI 1)), (13, .int (nI (rtN w ro K d 6 t1))), (12, .int (nI ((7 * t1) + (nx t1 d)))), (11, .int (nI (mv w K ro 6 t1 d))), (0, .ref (ad 71)), (1, .int (nI (q0))), (2, .int (nI (q - fC w ro K d 6 t1))), (3, .int (nI (a1 + fC w ro K d 6 t1))), (7, .long (lN (fM w ro K d 6 6)))]) hx hb dX6_layWay_347 hl (k := 11) rfl (inc_up _ 1 (by decide)) (by decide) rfl (fun ls hl => ?_)
                          refine lv_goto (tgt := 153) hx hb dX6_layWay_350 (by decide) ?_
                          refine lv_iload hx hb dX6_layWay_153 (lv_at hl 0 rfl) ?_
                          refine q_bp 6 hx hb dX6_layWay_155 (by decide) ?_
                          refine q_cge (tgt := 353) hx hb dX6_layWay_157 (by decide) (by first | omega | exact Nat.lt_of_le_of_lt (hw3 _) (by decide)) (by first | omega | exact Nat.lt_of_le_of_lt (hw3 _) (by decide)) (fun c_157 => ?_) (fun c_157 => ?_)
                          ·
                            refine lv_iload hx hb dX6_layWay_353 (lv_at hl 1 rfl) ?_
                            refine q_ic 4 hx hb dX6_layWay_355 (by decide) ?_
                            refine q_cge (tgt := 375) hx hb dX6_layWay_356 (by decide) (by first | omega | exact Nat.lt_of_le_of_lt (hw3 _) (by decide)) (by first | omega | exact Nat.lt_of_le_of_lt (hw3 _) (by decide)) (fun c_356 => ?_) (fun c_356 => ?_)
                            ·
                              refine q_ic 0 hx hb dX6_layWay_375 (by decide) ?_
                              refine lv_istore (lv' := [(6, .int (nI 0)), (10, .int (nI (t1 + 1))), (5, .int (nI (t1))), (4, .int (nI (nx t1 d))), (9, .int (nI 1)), (13, .int (nI (rtN w ro K d 6 t1))), (12, .int (nI ((7 * t1) + (nx t1 d)))), (11, .int (nI (mv w K ro 6 t1 d))), (0, .ref (ad 71)), (1, .int (nI (q0))), (2, .int (nI (q - fC w ro K d 6 t1))), (3, .int (nI (a1 + fC w ro K d 6 t1))), (7, .long (lN (fM w ro K d 6 6)))]) hx hb dX6_layWay_376 hl (by decide) rfl (fun ls hl => ?_)
                              have hnj := NJ_s hw hNJ hdK (show t1 < 6 by omega) hp1
                              have hbs := byN_s (w := w) (r := ro) hs18 hdK (show t1 < 6 by omega) hc hq2
                              have hfj := FJ_s (hbs ▸ hF) hs18
                              have hq3 : q - fC w ro K d 6 t1 < Cx' w K ro (K - nx t1 d) t1 := by have h8 := fC_s w ro K d 6 t1; rw [rt_p hp1] at h8; omega
                              have hen : bI (nx t1 d = K) = nI 0 := bI_f (by unfold nx; rw [if_neg (by omega)]; omega)
                              have hl : lv_has ls 14 [(6, .int (bI (nx t1 d = K))), (10, .int (nI (t1 + 1))), (5, .int (nI (t1))), (4, .int (nI (nx t1 d))), (9, .int (nI 1)), (13, .int (nI (rtN w ro K d 6 t1))), (12, .int (nI ((7 * t1) + (nx t1 d)))), (11, .int (nI (mv w K ro 6 t1 d))), (0, .ref (ad 71)), (1, .int (nI (q0))), (2, .int (nI (q - fC w ro K d 6 t1))), (3, .int (nI (a1 + fC w ro K d 6 t1))), (7, .long (lN (fM w ro K d 6 6)))] := by rw [hen]; exact hl
                              have hl : lv_has ls 14 [(6, .int (bI (nx t1 d = K))), (10, .int (nI (t1 + 1))), (5, .int (fr6 t1)), (4, .int (nI (nx t1 d))), (9, .int (nI 1)), (13, .int (nI (rtN w ro K d 6 t1))), (12, .int (nI ((7 * t1) + (nx t1 d)))), (11, .int (nI (mv w K ro 6 t1 d))), (0, .ref (ad 71)), (1, .int (nI (q0))), (2, .int (nI (q - fC w ro K d 6 t1))), (3, .int (nI (a1 + fC w ro K d 6 t1))), (7, .long (lN (fM w ro K d 6 6)))] := by rw [show fr6 t1 = nI t1 from if_neg (by omega)]; exact hl
                              refine lv_goto (tgt := 38) hx hb dX6_layWay_378 (by decide) ?_
                              exact ih_38 (s1 + 1) (nx t1 d) t1 (q - fC w ro K d 6 t1) (a1 + fC w ro K d 6 t1) (up2 (up2 I1 81 s1 (nI t1)) 71 12 (nI (s1 + 1))) (up2 L1 71 13 ((L1 71 13) * (lN (mv w K ro 6 t1 d)))) (by omega) hfj hnj hq3 _ _ hW _ (lv_sub hl [8, 9, 10, 11, 3, 2, 0] rfl)
                            ·
                              refine lv_iload hx hb dX6_layWay_359 (lv_at hl 2 rfl) ?_
                              refine lv_aload_n hx hb dX6_layWay_361 rfl (lv_at hl 7 rfl) ?_
                              refine g_6_0 (x := 71) (y := 72) hC hW (by omega) kd_71 gw_483 (hlk 71 0 72 (by omega) rfl) dX6_layWay_362 ?_
                              refine q_bp 58 hx hb dX6_layWay_365 (by decide) ?_
                              refine q_iald (x := 72) (i := 58) hC hW (by omega) kd_72 (by omega) dX6_layWay_367 ?_
                              refine q_top (v2 := .int (nI (K))) (congrArg _ (by rw [up2_ne (by decide), up2_ne (by decide)]; exact hN1.2.1)) ?_
                              refine q_cne (tgt := 375) hx hb dX6_layWay_368 (by decide) (by first | omega | exact Nat.lt_of_le_of_lt (hw3 _) (by decide)) (by first | omega | exact Nat.lt_of_le_of_lt (hw3 _) (by decide)) (fun c_368 => ?_) (fun c_368 => ?_)
                              ·
                                refine q_ic 0 hx hb dX6_layWay_375 (by decide) ?_
                                refine lv_istore (lv' := [(6, .int (nI 0)), (10, .int (nI (t1 + 1))), (5, .int (nI (t1))), (4, .int (nI (nx t1 d))), (9, .int (nI 1)), (13, .int (nI (rtN w ro K d 6 t1))), (12, .int (nI ((7 * t1) + (nx t1 d)))), (11, .int (nI (mv w K ro 6 t1 d))), (0, .ref (ad 71)), (1, .int (nI (q0))), (2, .int (nI (q - fC w ro K d 6 t1))), (3, .int (nI (a1 + fC w ro K d 6 t1))), (7, .long (lN (fM w ro K d 6 6)))]) hx hb dX6_layWay_376 hl (by decide) rfl (fun ls hl => ?_)
                                have hnj := NJ_s hw hNJ hdK (show t1 < 6 by omega) hp1
                                have hbs := byN_s (w := w) (r := ro) hs18 hdK (show t1 < 6 by omega) hc hq2
                                have hfj := FJ_s (hbs ▸ hF) hs18
                                have hq3 : q - fC w ro K d 6 t1 < Cx' w K ro (K - nx t1 d) t1 := by have h8 := fC_s w ro K d 6 t1; rw [rt_p hp1] at h8; omega
                                have hen : bI (nx t1 d = K) = nI 0 := bI_f (by omega)
                                have hl : lv_has ls 14 [(6, .int (bI (nx t1 d = K))), (10, .int (nI (t1 + 1))), (5, .int (nI (t1))), (4, .int (nI (nx t1 d))), (9, .int (nI 1)), (13, .int (nI (rtN w ro K d 6 t1))), (12, .int (nI ((7 * t1) + (nx t1 d)))), (11, .int (nI (mv w K ro 6 t1 d))), (0, .ref (ad 71)), (1, .int (nI (q0))), (2, .int (nI (q - fC w ro K d 6 t1))), (3, .int (nI (a1 + fC w ro K d 6 t1))), (7, .long (lN (fM w ro K d 6 6)))] := by rw [hen]; exact hl
                                have hl : lv_has ls 14 [(6, .int (bI (nx t1 d = K))), (10, .int (nI (t1 + 1))), (5, .int (fr6 t1)), (4, .int (nI (nx t1 d))), (9, .int (nI 1)), (13, .int (nI (rtN w ro K d 6 t1))), (12, .int (nI ((7 * t1) + (nx t1 d)))), (11, .int (nI (mv w K ro 6 t1 d))), (0, .ref (ad 71)), (1, .int (nI (q0))), (2, .int (nI (q - fC w ro K d 6 t1))), (3, .int (nI (a1 + fC w ro K d 6 t1))), (7, .long (lN (fM w ro K d 6 6)))] := by rw [show fr6 t1 = nI t1 from if_neg (by omega)]; exact hl
                                refine lv_goto (tgt := 38) hx hb dX6_layWay_378 (by decide) ?_
                                exact ih_38 (s1 + 1) (nx t1 d) t1 (q - fC w ro K d 6 t1) (a1 + fC w ro K d 6 t1) (up2 (up2 I1 81 s1 (nI t1)) 71 12 (nI (s1 + 1))) (up2 L1 71 13 ((L1 71 13) * (lN (mv w K ro 6 t1 d)))) (by omega) hfj hnj hq3 _ _ hW _ (lv_sub hl [8, 9, 10, 11, 3, 2, 0] rfl)
                              ·
                                refine q_ic 1 hx hb dX6_layWay_371 (by decide) ?_
                                refine lv_goto (tgt := 376) hx hb dX6_layWay_372 (by decide) ?_
                                refine lv_istore (lv' := [(6, .int (nI 1)), (10, .int (nI (t1 + 1))), (5, .int (nI (t1))), (4, .int (nI (nx t1 d))), (9, .int (nI 1)), (13, .int (nI (rtN w ro K d 6 t1))), (12, .int (nI ((7 * t1) + (nx t1 d)))), (11, .int (nI (mv w K ro 6 t1 d))), (0, .ref (ad 71)), (1, .int (nI (q0))), (2, .int (nI (q - fC w ro K d 6 t1))), (3, .int (nI (a1 + fC w ro K d 6 t1))), (7, .long (lN (fM w ro K d 6 6)))]) hx hb dX6_layWay_376 hl (by decide) rfl (fun ls hl => ?_)
                                have hnj := NJ_s hw hNJ hdK (show t1 < 6 by omega) hp1
                                have hbs := byN_s (w := w) (r := ro) hs18 hdK (show t1 < 6 by omega) hc hq2
                                have hfj := FJ_s (hbs ▸ hF) hs18
                                have hq3 : q - fC w ro K d 6 t1 < Cx' w K ro (K - nx t1 d) t1 := by have h8 := fC_s w ro K d 6 t1; rw [rt_p hp1] at h8; omega
                                have hen : bI (nx t1 d = K) = nI 1 := bI_t (by omega)
                                have hl : lv_has ls 14 [(6, .int (bI (nx t1 d = K))), (10, .int (nI (t1 + 1))), (5, .int (nI (t1))), (4, .int (nI (nx t1 d))), (9, .int (nI 1)), (13, .int (nI (rtN w ro K d 6 t1))), (12, .int (nI ((7 * t1) + (nx t1 d)))), (11, .int (nI (mv w K ro 6 t1 d))), (0, .ref (ad 71)), (1, .int (nI (q0))), (2, .int (nI (q - fC w ro K d 6 t1))), (3, .int (nI (a1 + fC w ro K d 6 t1))), (7, .long (lN (fM w ro K d 6 6)))] := by rw [hen]; exact hl
                                have hl : lv_has ls 14 [(6, .int (bI (nx t1 d = K))), (10, .int (nI (t1 + 1))), (5, .int (fr6 t1)), (4, .int (nI (nx t1 d))), (9, .int (nI 1)), (13, .int (nI (rtN w ro K d 6 t1))), (12, .int (nI ((7 * t1) + (nx t1 d)))), (11, .int (nI (mv w K ro 6 t1 d))), (0, .ref (ad 71)), (1, .int (nI (q0))), (2, .int (nI (q - fC w ro K d 6 t1))), (3, .int (nI (a1 + fC w ro K d 6 t1))), (7, .long (lN (fM w ro K d 6 6)))] := by rw [show fr6 t1 = nI t1 from if_neg (by omega)]; exact hl
                                refine lv_goto (tgt := 38) hx hb dX6_layWay_378 (by decide) ?_
                                exact ih_38 (s1 + 1) (nx t1 d) t1 (q - fC w ro K d 6 t1) (a1 + fC w ro K d 6 t1) (up2 (up2 I1 81 s1 (nI t1)) 71 12 (nI (s1 + 1))) (up2 L1 71 13 ((L1 71 13) * (lN (mv w K ro 6 t1 d)))) (by omega) hfj hnj hq3 _ _ hW _ (lv_sub hl [8, 9, 10, 11, 3, 2, 0] rfl)
                          ·
                            refine lv_iload hx hb dX6_layWay_160 (lv_at hl 3 rfl) ?_
                            refine q_ine (tgt := 353) hx hb dX6_layWay_162 (by decide) (by first | omega | exact Nat.lt_of_le_of_lt (hw3 _) (by decide)) (fun c_162 => ?_) (fun c_162 => absurd c_162 (by decide))
                            refine lv_iload hx hb dX6_layWay_353 (lv_at hl 1 rfl) ?_
                            refine q_ic 4 hx hb dX6_layWay_355 (by decide) ?_
                            refine q_cge (tgt := 375) hx hb dX6_layWay_356 (by decide) (by first | omega | exact Nat.lt_of_le_of_lt (hw3 _) (by decide)) (by first | omega | exact Nat.lt_of_le_of_lt (hw3 _) (by decide)) (fun c_356 => ?_) (fun c_356 => ?_)
                            ·
                              refine q_ic 0 hx hb dX6_layWay_375 (by decide) ?_
                              refine lv_istore (lv' := [(6, .int (nI 0)), (10, .int (nI (t1 + 1))), (5, .int (nI (t1))), (4, .int (nI (nx t1 d))), (9, .int (nI 1)), (13, .int (nI (rtN w ro K d 6 t1))), (12, .int (nI ((7 * t1) + (nx t1 d)))), (11, .int (nI (mv w K ro 6 t1 d))), (0, .ref (ad 71)), (1, .int (nI (q0))), (2, .int (nI (q - fC w ro K d 6 t1))), (3, .int (nI (a1 + fC w ro K d 6 t1))), (7, .long (lN (fM w ro K d 6 6)))]) hx hb dX6_layWay_376 hl (by decide) rfl (fun ls hl => ?_)
                              have hnj := NJ_s hw hNJ hdK (show t1 < 6 by omega) hp1
                              have hbs := byN_s (w := w) (r := ro) hs18 hdK (show t1 < 6 by omega) hc hq2
                              have hfj := FJ_s (hbs ▸ hF) hs18
                              have hq3 : q - fC w ro K d 6 t1 < Cx' w K ro (K - nx t1 d) t1 := by have h8 := fC_s w ro K d 6 t1; rw [rt_p hp1] at h8; omega
                              have hen : bI (nx t1 d = K) = nI 0 := bI_f (by unfold nx; rw [if_neg (by omega)]; omega)
                              have hl : lv_has ls 14 [(6, .int (bI (nx t1 d = K))), (10, .int (nI (t1 + 1))), (5, .int (nI (t1))), (4, .int (nI (nx t1 d))), (9, .int (nI 1)), (13, .int (nI (rtN w ro K d 6 t1))), (12, .int (nI ((7 * t1) + (nx t1 d)))), (11, .int (nI (mv w K ro 6 t1 d))), (0, .ref (ad 71)), (1, .int (nI (q0))), (2, .int (nI (q - fC w ro K d 6 t1))), (3, .int (nI (a1 + fC w ro K d 6 t1))), (7, .long (lN (fM w ro K d 6 6)))] := by rw [hen]; exact hl
                              have hl : lv_has ls 14 [(6, .int (bI (nx t1 d = K))), (10, .int (nI (t1 + 1))), (5, .int (fr6 t1)), (4, .int (nI (nx t1 d))), (9, .int (nI 1)), (13, .int (nI (rtN w ro K d 6 t1))), (12, .int (nI ((7 * t1) + (nx t1 d)))), (11, .int (nI (mv w K ro 6 t1 d))), (0, .ref (ad 71)), (1, .int (nI (q0))), (2, .int (nI (q - fC w ro K d 6 t1))), (3, .int (nI (a1 + fC w ro K d 6 t1))), (7, .long (lN (fM w ro K d 6 6)))] := by rw [show fr6 t1 = nI t1 from if_neg (by omega)]; exact hl
                              refine lv_goto (tgt := 38) hx hb dX6_layWay_378 (by decide) ?_
                              exact ih_38 (s1 + 1) (nx t1 d) t1 (q - fC w ro K d 6 t1) (a1 + fC w ro K d 6 t1) (up2 (up2 I1 81 s1 (nI t1)) 71 12 (nI (s1 + 1))) (up2 L1 71 13 ((L1 71 13) * (lN (mv w K ro 6 t1 d)))) (by omega) hfj hnj hq3 _ _ hW _ (lv_sub hl [8, 9, 10, 11, 3, 2, 0] rfl)
                            ·
                              refine lv_iload hx hb dX6_layWay_359 (lv_at hl 2 rfl) ?_
                              refine lv_aload_n hx hb dX6_layWay_361 rfl (lv_at hl 7 rfl) ?_
                              refine g_6_0 (x := 71) (y := 72) hC hW (by omega) kd_71 gw_483 (hlk 71 0 72 (by omega) rfl) dX6_layWay_362 ?_
                              refine q_bp 58 hx hb dX6_layWay_365 (by decide) ?_
                              refine q_iald (x := 72) (i := 58) hC hW (by omega) kd_72 (by omega) dX6_layWay_367 ?_
                              refine q_top (v2 := .int (nI (K))) (congrArg _ (by rw [up2_ne (by decide), up2_ne (by decide)]; exact hN1.2.1)) ?_
                              refine q_cne (tgt := 375) hx hb dX6_layWay_368 (by decide) (by first | omega | exact Nat.lt_of_le_of_lt (hw3 _) (by decide)) (by first | omega | exact Nat.lt_of_le_of_lt (hw3 _) (by decide)) (fun c_368 => ?_) (fun c_368 => ?_)
                              ·
                                refine q_ic 0 hx hb dX6_layWay_375 (by decide) ?_
                                refine lv_istore (lv' := [(6, .int (nI 0)), (10, .int (nI (t1 + 1))), (5, .int (nI (t1))), (4, .int (nI (nx t1 d))), (9, .int (nI 1)), (13, .int (nI (rtN w ro K d 6 t1))), (12, .int (nI ((7 * t1) + (nx t1 d)))), (11, .int (nI (mv w K ro 6 t1 d))), (0, .ref (ad 71)), (1, .int (nI (q0))), (2, .int (nI (q - fC w ro K d 6 t1))), (3, .int (nI (a1 + fC w ro K d 6 t1))), (7, .long (lN (fM w ro K d 6 6)))]) hx hb dX6_layWay_376 hl (by decide) rfl (fun ls hl => ?_)
                                have hnj := NJ_s hw hNJ hdK (show t1 < 6 by omega) hp1
                                have hbs := byN_s (w := w) (r := ro) hs18 hdK (show t1 < 6 by omega) hc hq2
                                have hfj := FJ_s (hbs ▸ hF) hs18
                                have hq3 : q - fC w ro K d 6 t1 < Cx' w K ro (K - nx t1 d) t1 := by have h8 := fC_s w ro K d 6 t1; rw [rt_p hp1] at h8; omega
                                have hen : bI (nx t1 d = K) = nI 0 := bI_f (by omega)
                                have hl : lv_has ls 14 [(6, .int (bI (nx t1 d = K))), (10, .int (nI (t1 + 1))), (5, .int (nI (t1))), (4, .int (nI (nx t1 d))), (9, .int (nI 1)), (13, .int (nI (rtN w ro K d 6 t1))), (12, .int (nI ((7 * t1) + (nx t1 d)))), (11, .int (nI (mv w K ro 6 t1 d))), (0, .ref (ad 71)), (1, .int (nI (q0))), (2, .int (nI (q - fC w ro K d 6 t1))), (3, .int (nI (a1 + fC w ro K d 6 t1))), (7, .long (lN (fM w ro K d 6 6)))] := by rw [hen]; exact hl
                                have hl : lv_has ls 14 [(6, .int (bI (nx t1 d = K))), (10, .int (nI (t1 + 1))), (5, .int (fr6 t1)), (4, .int (nI (nx t1 d))), (9, .int (nI 1)), (13, .int (nI (rtN w ro K d 6 t1))), (12, .int (nI ((7 * t1) + (nx t1 d)))), (11, .int (nI (mv w K ro 6 t1 d))), (0, .ref (ad 71)), (1, .int (nI (q0))), (2, .int (nI (q - fC w ro K d 6 t1))), (3, .int (nI (a1 + fC w ro K d 6 t1))), (7, .long (lN (fM w ro K d 6 6)))] := by rw [show fr6 t1 = nI t1 from if_neg (by omega)]; exact hl
                                refine lv_goto (tgt := 38) hx hb dX6_layWay_378 (by decide) ?_
                                exact ih_38 (s1 + 1) (nx t1 d) t1 (q - fC w ro K d 6 t1) (a1 + fC w ro K d 6 t1) (up2 (up2 I1 81 s1 (nI t1)) 71 12 (nI (s1 + 1))) (up2 L1 71 13 ((L1 71 13) * (lN (mv w K ro 6 t1 d)))) (by omega) hfj hnj hq3 _ _ hW _ (lv_sub hl [8, 9, 10, 11, 3, 2, 0] rfl)
                              ·
                                refine q_ic 1 hx hb dX6_layWay_371 (by decide) ?_
                                refine lv_goto (tgt := 376) hx hb dX6_layWay_372 (by decide) ?_
                                refine lv_istore (lv' := [(6, .int (nI 1)), (10, .int (nI (t1 + 1))), (5, .int (nI (t1))), (4, .int (nI (nx t1 d))), (9, .int (nI 1)), (13, .int (nI (rtN w ro K d 6 t1))), (12, .int (nI ((7 * t1) + (nx t1 d)))), (11, .int (nI (mv w K ro 6 t1 d))), (0, .ref (ad 71)), (1, .int (nI (q0))), (2, .int (nI (q - fC w ro K d 6 t1))), (3, .int (nI (a1 + fC w ro K d 6 t1))), (7, .long (lN (fM w ro K d 6 6)))]) hx hb dX6_layWay_376 hl (by decide) rfl (fun ls hl => ?_)
                                have hnj := NJ_s hw hNJ hdK (show t1 < 6 by omega) hp1
                                have hbs := byN_s (w := w) (r := ro) hs18 hdK (show t1 < 6 by omega) hc hq2
                                have hfj := FJ_s (hbs ▸ hF) hs18
                                have hq3 : q - fC w ro K d 6 t1 < Cx' w K ro (K - nx t1 d) t1 := by have h8 := fC_s w ro K d 6 t1; rw [rt_p hp1] at h8; omega
                                have hen : bI (nx t1 d = K) = nI 1 := bI_t (by omega)
                                have hl : lv_has ls 14 [(6, .int (bI (nx t1 d = K))), (10, .int (nI (t1 + 1))), (5, .int (nI (t1))), (4, .int (nI (nx t1 d))), (9, .int (nI 1)), (13, .int (nI (rtN w ro K d 6 t1))), (12, .int (nI ((7 * t1) + (nx t1 d)))), (11, .int (nI (mv w K ro 6 t1 d))), (0, .ref (ad 71)), (1, .int (nI (q0))), (2, .int (nI (q - fC w ro K d 6 t1))), (3, .int (nI (a1 + fC w ro K d 6 t1))), (7, .long (lN (fM w ro K d 6 6)))] := by rw [hen]; exact hl
                                have hl : lv_has ls 14 [(6, .int (bI (nx t1 d = K))), (10, .int (nI (t1 + 1))), (5, .int (fr6 t1)), (4, .int (nI (nx t1 d))), (9, .int (nI 1)), (13, .int (nI (rtN w ro K d 6 t1))), (12, .int (nI ((7 * t1) + (nx t1 d)))), (11, .int (nI (mv w K ro 6 t1 d))), (0, .ref (ad 71)), (1, .int (nI (q0))), (2, .int (nI (q - fC w ro K d 6 t1))), (3, .int (nI (a1 + fC w ro K d 6 t1))), (7, .long (lN (fM w ro K d 6 6)))] := by rw [show fr6 t1 = nI t1 from if_neg (by omega)]; exact hl
                                refine lv_goto (tgt := 38) hx hb dX6_layWay_378 (by decide) ?_
                                exact ih_38 (s1 + 1) (nx t1 d) t1 (q - fC w ro K d 6 t1) (a1 + fC w ro K d 6 t1) (up2 (up2 I1 81 s1 (nI t1)) 71 12 (nI (s1 + 1))) (up2 L1 71 13 ((L1 71 13) * (lN (mv w K ro 6 t1 d)))) (by omega) hfj hnj hq3 _ _ hW _ (lv_sub hl [8, 9, 10, 11, 3, 2, 0] rfl)
                      ·
                        have hp1 : 0 < mv w K ro 6 t1 d := by omega
                        have hnx : nx t1 d ≤ K := nx_K2 hp1 (by omega)
                        have hmb := mM_lt hw (r := ro) K d 6 t1 hk6
                        refine lv_aload_n hx hb dX6_layWay_218 rfl (lv_at hl 2 rfl) ?_
                        refine g_6_9 (x := 71) (y := 79) hC hW (by omega) kd_71 gw_492 (hlk 71 9 79 (by omega) rfl) dX6_layWay_219 ?_
                        refine lv_iload hx hb dX6_layWay_222 (lv_at hl 0 rfl) ?_
                        refine q_iald (x := 79) (i := (7 * t1) + (nx t1 d)) hC hW (by omega) kd_79 (by omega) dX6_layWay_224 ?_
                        refine q_top (v2 := .int (nI (Cx' w K ro (K - (nx t1 d)) t1))) (congrArg _ (hB1 (nx t1 d) t1 (by omega) hnx (by omega)).2.2) ?_
                        refine lv_goto (tgt := 229) hx hb dX6_layWay_225 (by decide) ?_
                        have hrb := rtN_b hw (r := ro) (K := K) (d := d) (f := 6) (t := t1) hk6
                        refine q_top (v2 := .int (nI (rtN w ro K d 6 t1))) (by rw [rt_p hp1]) ?_
                        refine lv_istore (lv' := [(13, .int (nI (rtN w ro K d 6 t1))), (12, .int (nI ((7 * t1) + (nx t1 d)))), (11, .int (nI (mv w K ro 6 t1 d))), (0, .ref (ad 71)), (1, .int (nI (q0))), (2, .int (nI (q - fC w ro K d 6 t1))), (3, .int (nI (a1 + fC w ro K d 6 t1))), (4, .int (nI (d))), (5, .int (-6)), (7, .long (lN (fM w ro K d 6 6))), (9, .int (nI 0)), (10, .int (nI (t1)))]) hx hb dX6_layWay_229 hl (by decide) rfl (fun ls hl => ?_)
                        refine lv_iload_n hx hb dX6_layWay_231 rfl (lv_at hl 4 rfl) ?_
                        refine lv_if_ge (tgt := 270) hx hb dX6_layWay_232 (by decide) (fun c_232 => ?_) (fun c_232 => absurd (Int32.not_lt.mp (nI_pos (by omega))) c_232)
                        refine lv_iload_n hx hb dX6_layWay_270 rfl (lv_at hl 5 rfl) ?_
                        refine lv_iload hx hb dX6_layWay_271 (lv_at hl 0 rfl) ?_
                        refine q_cge (tgt := 280) hx hb dX6_layWay_273 (by decide) (by first | omega | exact Nat.lt_of_le_of_lt (hw3 _) (by decide)) (by first | omega | exact Nat.lt_of_le_of_lt (hw3 _) (by decide)) (fun c_273 => ?_) (fun c_273 => ?_)
                        ·
                          refine q_ic 0 hx hb dX6_layWay_280 (by decide) ?_
                          refine lv_istore (lv' := [(9, .int (nI 0)), (13, .int (nI (rtN w ro K d 6 t1))), (12, .int (nI ((7 * t1) + (nx t1 d)))), (11, .int (nI (mv w K ro 6 t1 d))), (0, .ref (ad 71)), (1, .int (nI (q0))), (2, .int (nI (q - fC w ro K d 6 t1))), (3, .int (nI (a1 + fC w ro K d 6 t1))), (4, .int (nI (d))), (5, .int (-6)), (7, .long (lN (fM w ro K d 6 6))), (10, .int (nI (t1)))]) hx hb dX6_layWay_281 hl (by decide) rfl (fun ls hl => ?_)
                          refine lv_iload hx hb dX6_layWay_283 (lv_at hl 0 rfl) ?_
                          refine q_ieq (tgt := 337) hx hb dX6_layWay_285 (by decide) (by first | omega | exact Nat.lt_of_le_of_lt (hw3 _) (by decide)) (fun c_285 => ?_) (fun c_285 => absurd c_285 (by decide))
                          refine lv_iload_n hx hb dX6_layWay_337 rfl (lv_at hl 6 rfl) ?_
                          refine lv_iload hx hb dX6_layWay_338 (lv_at hl 1 rfl) ?_
                          refine q_isub hx hb dX6_layWay_340 (by omega) ?_
                          refine q_top (v2 := .int (nI (q - fC w ro K d 6 (t1 + 1)))) (by rw [fC_s, Nat.sub_add_eq]) ?_
                          refine lv_istore_n (lv' := [(2, .int (nI (q - fC w ro K d 6 (t1 + 1)))), (9, .int (nI 0)), (13, .int (nI (rtN w ro K d 6 t1))), (12, .int (nI ((7 * t1) + (nx t1 d)))), (11, .int (nI (mv w K ro 6 t1 d))), (0, .ref (ad 71)), (1, .int (nI (q0))), (3, .int (nI (a1 + fC w ro K d 6 t1))), (4, .int (nI (d))), (5, .int (-6)), (7, .long (lN (fM w ro K d 6 6))), (10, .int (nI (t1)))]) hx hb dX6_layWay_341 rfl hl (by decide) rfl (fun ls hl => ?_)
                          refine lv_iload_n hx hb dX6_layWay_342 rfl (lv_at hl 7 rfl) ?_
                          refine lv_iload hx hb dX6_layWay_343 (lv_at hl 2 rfl) ?_
                          refine q_iadd hx hb dX6_layWay_345 ?_
                          refine q_top (v2 := .int (nI (a1 + fC w ro K d 6 (t1 + 1)))) (by rw [fC_s, Nat.add_assoc]) ?_
                          refine lv_istore_n (lv' := [(3, .int (nI (a1 + fC w ro K d 6 (t1 + 1)))), (2, .int (nI (q - fC w ro K d 6 (t1 + 1)))), (9, .int (nI 0)), (13, .int (nI (rtN w ro K d 6 t1))), (12, .int (nI ((7 * t1) + (nx t1 d)))), (11, .int (nI (mv w K ro 6 t1 d))), (0, .ref (ad 71)), (1, .int (nI (q0))), (4, .int (nI (d))), (5, .int (-6)), (7, .long (lN (fM w ro K d 6 6))), (10, .int (nI (t1)))]) hx hb dX6_layWay_346 rfl hl (by decide) rfl (fun ls hl => ?_)
                          refine q_iinc (z2 := t1 + 1) (lv' := [(10, .int (nI (t1 + 1))), (3, .int (nI (a1 + fC w ro K d 6 (t1 + 1)))), (2, .int (nI (q - fC w ro K d 6 (t1 + 1)))), (9, .int (nI 0)), (13, .int (nI (rtN w ro K d 6 t1))), (12, .int (nI ((7 * t1) + (nx t1 d)))), (11, .int (nI (mv w K ro 6 t1 d))), (0, .ref (ad 71)), (1, .int (nI (q0))), (4, .int (nI (d))), (5, .int (-6)), (7, .long (lN (fM w ro K d 6 6)))]) hx hb dX6_layWay_347 hl (k := 11) rfl (inc_up _ 1 (by decide)) (by decide) rfl (fun ls hl => ?_)
                          refine lv_goto (tgt := 153) hx hb dX6_layWay_350 (by decide) ?_
                          exact ih_153 (t1 + 1) (by omega) (by omega) (by rw [fC_s]; omega) _ _ hW _ (lv_sub hl [7, 8, 2, 1, 9, 10, 11, 3, 0] rfl)
                        ·
                          refine q_ic 1 hx hb dX6_layWay_276 (by decide) ?_
                          refine lv_goto (tgt := 281) hx hb dX6_layWay_277 (by decide) ?_
                          have hq2 : q < fC w ro K d 6 (t1 + 1) := by rw [fC_s]; omega
                          refine lv_istore (lv' := [(9, .int (nI 1)), (13, .int (nI (rtN w ro K d 6 t1))), (12, .int (nI ((7 * t1) + (nx t1 d)))), (11, .int (nI (mv w K ro 6 t1 d))), (0, .ref (ad 71)), (1, .int (nI (q0))), (2, .int (nI (q - fC w ro K d 6 t1))), (3, .int (nI (a1 + fC w ro K d 6 t1))), (4, .int (nI (d))), (5, .int (-6)), (7, .long (lN (fM w ro K d 6 6))), (10, .int (nI (t1)))]) hx hb dX6_layWay_281 hl (by decide) rfl (fun ls hl => ?_)
                          refine lv_iload hx hb dX6_layWay_283 (lv_at hl 0 rfl) ?_
                          refine q_ieq (tgt := 337) hx hb dX6_layWay_285 (by decide) (by first | omega | exact Nat.lt_of_le_of_lt (hw3 _) (by decide)) (fun c_285 => absurd c_285 (by decide)) (fun c_285 => ?_)
                          refine lv_aload_n hx hb dX6_layWay_288 rfl (lv_at hl 4 rfl) ?_
                          refine g_6_11 (x := 71) (y := 81) hC hW (by omega) kd_71 gw_494 (hlk 71 11 81 (by omega) rfl) dX6_layWay_289 ?_
                          refine lv_aload_n hx hb dX6_layWay_292 rfl (lv_at hl 4 rfl) ?_
                          refine g_6_12 (x := 71) hC hW (by omega) kd_71 gw_495 dX6_layWay_293 ?_
                          refine q_top (v2 := .int (nI (s1))) (congrArg _ hF.2.1) ?_
                          refine lv_iload hx hb dX6_layWay_296 (lv_at hl 11 rfl) ?_
                          refine q_iast (x := 81) (i := s1) (v := nI t1) hC hW (by omega) kd_81 (by omega) dX6_layWay_298 (fun H locs hW => ?_)
                          refine lv_aload_n hx hb dX6_layWay_299 rfl (lv_at hl 4 rfl) ?_
                          refine lv_dup hx hb dX6_layWay_300 rfl ?_
                          refine g_6_12 (x := 71) hC hW (by omega) kd_71 gw_495 dX6_layWay_301 ?_
                          refine q_top (v2 := .int (nI (s1))) (congrArg _ (by rw [up2_ne (by decide)]; exact hF.2.1)) ?_
                          refine q_ic 1 hx hb dX6_layWay_304 (by decide) ?_
                          refine q_iadd hx hb dX6_layWay_305 ?_
                          refine p_6_12 (x := 71) (v := nI (s1 + 1)) hC hW (by omega) kd_71 gw_495 dX6_layWay_306 (fun H locs hW => ?_)
                          refine lv_aload_n hx hb dX6_layWay_309 rfl (lv_at hl 4 rfl) ?_
                          refine lv_dup hx hb dX6_layWay_310 rfl ?_
                          refine g_6_13 (x := 71) hC hW (by omega) kd_71 gw_496 dX6_layWay_311 ?_
                          refine lv_iload hx hb dX6_layWay_314 (lv_at hl 3 rfl) ?_
                          refine q_i2l hx hb dX6_layWay_316 (by first | omega | exact Nat.lt_of_le_of_lt (hw3 _) (by decide)) ?_
                          refine lv_lmul hx hb dX6_layWay_317 ?_
                          refine p_6_13 (x := 71) (v := (L1 71 13) * (lN (mv w K ro 6 t1 d))) hC hW (by omega) kd_71 gw_496 dX6_layWay_318 (fun H locs hW => ?_)
                          refine lv_iload hx hb dX6_layWay_321 (lv_at hl 11 rfl) ?_
                          refine lv_iload hx hb dX6_layWay_323 (lv_at hl 8 rfl) ?_
                          refine q_kI0 (q_rS (As := [.int (nI (t1)), .int (nI (d))]) (rest := []) hC hW mw_X6_toldThen gw_598 (k_toldThen l G n ad H.size (up2 (up2 I1 81 s1 (nI t1)) 71 12 (nI (s1 + 1))) (up2 L1 71 13 ((L1 71 13) * (lN (mv w K ro 6 t1 d)))) R _ _ (by omega) (by omega)) ⟨rfl, rfl⟩ ⟨Nat.le_of_ble_eq_true rfl, Nat.le_of_ble_eq_true rfl⟩ ⟨(Nat.le_of_ble_eq_true rfl), (Nat.le_of_ble_eq_true rfl)⟩ hl.1 rfl rfl (Nat.le_of_ble_eq_true rfl) dX6_layWay_325) hW (fun r_325 H locs hp hW => ?_)
                          subst hp
                          refine lv_istore (lv' := [(4, .int (nI (nx t1 d))), (9, .int (nI 1)), (13, .int (nI (rtN w ro K d 6 t1))), (12, .int (nI ((7 * t1) + (nx t1 d)))), (11, .int (nI (mv w K ro 6 t1 d))), (0, .ref (ad 71)), (1, .int (nI (q0))), (2, .int (nI (q - fC w ro K d 6 t1))), (3, .int (nI (a1 + fC w ro K d 6 t1))), (5, .int (-6)), (7, .long (lN (fM w ro K d 6 6))), (10, .int (nI (t1)))]) hx hb dX6_layWay_328 hl (by decide) rfl (fun ls hl => ?_)
                          refine lv_iload hx hb dX6_layWay_330 (lv_at hl 11 rfl) ?_
                          refine lv_istore (lv' := [(5, .int (nI (t1))), (4, .int (nI (nx t1 d))), (9, .int (nI 1)), (13, .int (nI (rtN w ro K d 6 t1))), (12, .int (nI ((7 * t1) + (nx t1 d)))), (11, .int (nI (mv w K ro 6 t1 d))), (0, .ref (ad 71)), (1, .int (nI (q0))), (2, .int (nI (q - fC w ro K d 6 t1))), (3, .int (nI (a1 + fC w ro K d 6 t1))), (7, .long (lN (fM w ro K d 6 6))), (10, .int (nI (t1)))]) hx hb dX6_layWay_332 hl (by decide) rfl (fun ls hl => ?_)
                          refine lv_goto (tgt := 347) hx hb dX6_layWay_334 (by decide) ?_
                          refine q_iinc (z2 := t1 + 1) (lv' := [(10, .int (nI (t1 + 1))), (5, .int (nI (t1))), (4, .int (nI (nx t1 d))), (9, .int (nI 1)), (13, .int (nI (rtN w ro K d 6 t1))), (12, .int (nI ((7 * t1) + (nx t1 d)))), (11, .int (nI (mv w K ro 6 t1 d))), (0, .ref (ad 71)), (1, .int (nI (q0))), (2, .int (nI (q - fC w ro K d 6 t1))), (3, .int (nI (a1 + fC w ro K d 6 t1))), (7, .long (lN (fM w ro K d 6 6)))]) hx hb dX6_layWay_347 hl (k := 11) rfl (inc_up _ 1 (by decide)) (by decide) rfl (fun ls hl => ?_)
                          refine lv_goto (tgt := 153) hx hb dX6_layWay_350 (by decide) ?_
                          refine lv_iload hx hb dX6_layWay_153 (lv_at hl 0 rfl) ?_
                          refine q_bp 6 hx hb dX6_layWay_155 (by decide) ?_
                          refine q_cge (tgt := 353) hx hb dX6_layWay_157 (by decide) (by first | omega | exact Nat.lt_of_le_of_lt (hw3 _) (by decide)) (by first | omega | exact Nat.lt_of_le_of_lt (hw3 _) (by decide)) (fun c_157 => ?_) (fun c_157 => ?_)
                          ·
                            refine lv_iload hx hb dX6_layWay_353 (lv_at hl 1 rfl) ?_
                            refine q_ic 4 hx hb dX6_layWay_355 (by decide) ?_
                            refine q_cge (tgt := 375) hx hb dX6_layWay_356 (by decide) (by first | omega | exact Nat.lt_of_le_of_lt (hw3 _) (by decide)) (by first | omega | exact Nat.lt_of_le_of_lt (hw3 _) (by decide)) (fun c_356 => ?_) (fun c_356 => ?_)
                            ·
                              refine q_ic 0 hx hb dX6_layWay_375 (by decide) ?_
                              refine lv_istore (lv' := [(6, .int (nI 0)), (10, .int (nI (t1 + 1))), (5, .int (nI (t1))), (4, .int (nI (nx t1 d))), (9, .int (nI 1)), (13, .int (nI (rtN w ro K d 6 t1))), (12, .int (nI ((7 * t1) + (nx t1 d)))), (11, .int (nI (mv w K ro 6 t1 d))), (0, .ref (ad 71)), (1, .int (nI (q0))), (2, .int (nI (q - fC w ro K d 6 t1))), (3, .int (nI (a1 + fC w ro K d 6 t1))), (7, .long (lN (fM w ro K d 6 6)))]) hx hb dX6_layWay_376 hl (by decide) rfl (fun ls hl => ?_)
                              have hnj := NJ_s hw hNJ hdK (show t1 < 6 by omega) hp1
                              have hbs := byN_s (w := w) (r := ro) hs18 hdK (show t1 < 6 by omega) hc hq2
                              have hfj := FJ_s (hbs ▸ hF) hs18
                              have hq3 : q - fC w ro K d 6 t1 < Cx' w K ro (K - nx t1 d) t1 := by have h8 := fC_s w ro K d 6 t1; rw [rt_p hp1] at h8; omega
                              have hen : bI (nx t1 d = K) = nI 0 := bI_f (by unfold nx; rw [if_neg (by omega)]; omega)
                              have hl : lv_has ls 14 [(6, .int (bI (nx t1 d = K))), (10, .int (nI (t1 + 1))), (5, .int (nI (t1))), (4, .int (nI (nx t1 d))), (9, .int (nI 1)), (13, .int (nI (rtN w ro K d 6 t1))), (12, .int (nI ((7 * t1) + (nx t1 d)))), (11, .int (nI (mv w K ro 6 t1 d))), (0, .ref (ad 71)), (1, .int (nI (q0))), (2, .int (nI (q - fC w ro K d 6 t1))), (3, .int (nI (a1 + fC w ro K d 6 t1))), (7, .long (lN (fM w ro K d 6 6)))] := by rw [hen]; exact hl
                              have hl : lv_has ls 14 [(6, .int (bI (nx t1 d = K))), (10, .int (nI (t1 + 1))), (5, .int (fr6 t1)), (4, .int (nI (nx t1 d))), (9, .int (nI 1)), (13, .int (nI (rtN w ro K d 6 t1))), (12, .int (nI ((7 * t1) + (nx t1 d)))), (11, .int (nI (mv w K ro 6 t1 d))), (0, .ref (ad 71)), (1, .int (nI (q0))), (2, .int (nI (q - fC w ro K d 6 t1))), (3, .int (nI (a1 + fC w ro K d 6 t1))), (7, .long (lN (fM w ro K d 6 6)))] := by rw [show fr6 t1 = nI t1 from if_neg (by omega)]; exact hl
                              refine lv_goto (tgt := 38) hx hb dX6_layWay_378 (by decide) ?_
                              exact ih_38 (s1 + 1) (nx t1 d) t1 (q - fC w ro K d 6 t1) (a1 + fC w ro K d 6 t1) (up2 (up2 I1 81 s1 (nI t1)) 71 12 (nI (s1 + 1))) (up2 L1 71 13 ((L1 71 13) * (lN (mv w K ro 6 t1 d)))) (by omega) hfj hnj hq3 _ _ hW _ (lv_sub hl [8, 9, 10, 11, 3, 2, 0] rfl)
                            ·
                              refine lv_iload hx hb dX6_layWay_359 (lv_at hl 2 rfl) ?_
                              refine lv_aload_n hx hb dX6_layWay_361 rfl (lv_at hl 7 rfl) ?_
                              refine g_6_0 (x := 71) (y := 72) hC hW (by omega) kd_71 gw_483 (hlk 71 0 72 (by omega) rfl) dX6_layWay_362 ?_
                              refine q_bp 58 hx hb dX6_layWay_365 (by decide) ?_
                              refine q_iald (x := 72) (i := 58) hC hW (by omega) kd_72 (by omega) dX6_layWay_367 ?_
                              refine q_top (v2 := .int (nI (K))) (congrArg _ (by rw [up2_ne (by decide), up2_ne (by decide)]; exact hN1.2.1)) ?_
                              refine q_cne (tgt := 375) hx hb dX6_layWay_368 (by decide) (by first | omega | exact Nat.lt_of_le_of_lt (hw3 _) (by decide)) (by first | omega | exact Nat.lt_of_le_of_lt (hw3 _) (by decide)) (fun c_368 => ?_) (fun c_368 => ?_)
                              ·
                                refine q_ic 0 hx hb dX6_layWay_375 (by decide) ?_
                                refine lv_istore (lv' := [(6, .int (nI 0)), (10, .int (nI (t1 + 1))), (5, .int (nI (t1))), (4, .int (nI (nx t1 d))), (9, .int (nI 1)), (13, .int (nI (rtN w ro K d 6 t1))), (12, .int (nI ((7 * t1) + (nx t1 d)))), (11, .int (nI (mv w K ro 6 t1 d))), (0, .ref (ad 71)), (1, .int (nI (q0))), (2, .int (nI (q - fC w ro K d 6 t1))), (3, .int (nI (a1 + fC w ro K d 6 t1))), (7, .long (lN (fM w ro K d 6 6)))]) hx hb dX6_layWay_376 hl (by decide) rfl (fun ls hl => ?_)
                                have hnj := NJ_s hw hNJ hdK (show t1 < 6 by omega) hp1
                                have hbs := byN_s (w := w) (r := ro) hs18 hdK (show t1 < 6 by omega) hc hq2
                                have hfj := FJ_s (hbs ▸ hF) hs18
                                have hq3 : q - fC w ro K d 6 t1 < Cx' w K ro (K - nx t1 d) t1 := by have h8 := fC_s w ro K d 6 t1; rw [rt_p hp1] at h8; omega
                                have hen : bI (nx t1 d = K) = nI 0 := bI_f (by omega)
                                have hl : lv_has ls 14 [(6, .int (bI (nx t1 d = K))), (10, .int (nI (t1 + 1))), (5, .int (nI (t1))), (4, .int (nI (nx t1 d))), (9, .int (nI 1)), (13, .int (nI (rtN w ro K d 6 t1))), (12, .int (nI ((7 * t1) + (nx t1 d)))), (11, .int (nI (mv w K ro 6 t1 d))), (0, .ref (ad 71)), (1, .int (nI (q0))), (2, .int (nI (q - fC w ro K d 6 t1))), (3, .int (nI (a1 + fC w ro K d 6 t1))), (7, .long (lN (fM w ro K d 6 6)))] := by rw [hen]; exact hl
                                have hl : lv_has ls 14 [(6, .int (bI (nx t1 d = K))), (10, .int (nI (t1 + 1))), (5, .int (fr6 t1)), (4, .int (nI (nx t1 d))), (9, .int (nI 1)), (13, .int (nI (rtN w ro K d 6 t1))), (12, .int (nI ((7 * t1) + (nx t1 d)))), (11, .int (nI (mv w K ro 6 t1 d))), (0, .ref (ad 71)), (1, .int (nI (q0))), (2, .int (nI (q - fC w ro K d 6 t1))), (3, .int (nI (a1 + fC w ro K d 6 t1))), (7, .long (lN (fM w ro K d 6 6)))] := by rw [show fr6 t1 = nI t1 from if_neg (by omega)]; exact hl
                                refine lv_goto (tgt := 38) hx hb dX6_layWay_378 (by decide) ?_
                                exact ih_38 (s1 + 1) (nx t1 d) t1 (q - fC w ro K d 6 t1) (a1 + fC w ro K d 6 t1) (up2 (up2 I1 81 s1 (nI t1)) 71 12 (nI (s1 + 1))) (up2 L1 71 13 ((L1 71 13) * (lN (mv w K ro 6 t1 d)))) (by omega) hfj hnj hq3 _ _ hW _ (lv_sub hl [8, 9, 10, 11, 3, 2, 0] rfl)
                              ·
                                refine q_ic 1 hx hb dX6_layWay_371 (by decide) ?_
                                refine lv_goto (tgt := 376) hx hb dX6_layWay_372 (by decide) ?_
                                refine lv_istore (lv' := [(6, .int (nI 1)), (10, .int (nI (t1 + 1))), (5, .int (nI (t1))), (4, .int (nI (nx t1 d))), (9, .int (nI 1)), (13, .int (nI (rtN w ro K d 6 t1))), (12, .int (nI ((7 * t1) + (nx t1 d)))), (11, .int (nI (mv w K ro 6 t1 d))), (0, .ref (ad 71)), (1, .int (nI (q0))), (2, .int (nI (q - fC w ro K d 6 t1))), (3, .int (nI (a1 + fC w ro K d 6 t1))), (7, .long (lN (fM w ro K d 6 6)))]) hx hb dX6_layWay_376 hl (by decide) rfl (fun ls hl => ?_)
                                have hnj := NJ_s hw hNJ hdK (show t1 < 6 by omega) hp1
                                have hbs := byN_s (w := w) (r := ro) hs18 hdK (show t1 < 6 by omega) hc hq2
                                have hfj := FJ_s (hbs ▸ hF) hs18
                                have hq3 : q - fC w ro K d 6 t1 < Cx' w K ro (K - nx t1 d) t1 := by have h8 := fC_s w ro K d 6 t1; rw [rt_p hp1] at h8; omega
                                have hen : bI (nx t1 d = K) = nI 1 := bI_t (by omega)
                                have hl : lv_has ls 14 [(6, .int (bI (nx t1 d = K))), (10, .int (nI (t1 + 1))), (5, .int (nI (t1))), (4, .int (nI (nx t1 d))), (9, .int (nI 1)), (13, .int (nI (rtN w ro K d 6 t1))), (12, .int (nI ((7 * t1) + (nx t1 d)))), (11, .int (nI (mv w K ro 6 t1 d))), (0, .ref (ad 71)), (1, .int (nI (q0))), (2, .int (nI (q - fC w ro K d 6 t1))), (3, .int (nI (a1 + fC w ro K d 6 t1))), (7, .long (lN (fM w ro K d 6 6)))] := by rw [hen]; exact hl
                                have hl : lv_has ls 14 [(6, .int (bI (nx t1 d = K))), (10, .int (nI (t1 + 1))), (5, .int (fr6 t1)), (4, .int (nI (nx t1 d))), (9, .int (nI 1)), (13, .int (nI (rtN w ro K d 6 t1))), (12, .int (nI ((7 * t1) + (nx t1 d)))), (11, .int (nI (mv w K ro 6 t1 d))), (0, .ref (ad 71)), (1, .int (nI (q0))), (2, .int (nI (q - fC w ro K d 6 t1))), (3, .int (nI (a1 + fC w ro K d 6 t1))), (7, .long (lN (fM w ro K d 6 6)))] := by rw [show fr6 t1 = nI t1 from if_neg (by omega)]; exact hl
                                refine lv_goto (tgt := 38) hx hb dX6_layWay_378 (by decide) ?_
                                exact ih_38 (s1 + 1) (nx t1 d) t1 (q - fC w ro K d 6 t1) (a1 + fC w ro K d 6 t1) (up2 (up2 I1 81 s1 (nI t1)) 71 12 (nI (s1 + 1))) (up2 L1 71 13 ((L1 71 13) * (lN (mv w K ro 6 t1 d)))) (by omega) hfj hnj hq3 _ _ hW _ (lv_sub hl [8, 9, 10, 11, 3, 2, 0] rfl)
                          ·
                            refine lv_iload hx hb dX6_layWay_160 (lv_at hl 3 rfl) ?_
                            refine q_ine (tgt := 353) hx hb dX6_layWay_162 (by decide) (by first | omega | exact Nat.lt_of_le_of_lt (hw3 _) (by decide)) (fun c_162 => ?_) (fun c_162 => absurd c_162 (by decide))
                            refine lv_iload hx hb dX6_layWay_353 (lv_at hl 1 rfl) ?_
                            refine q_ic 4 hx hb dX6_layWay_355 (by decide) ?_
                            refine q_cge (tgt := 375) hx hb dX6_layWay_356 (by decide) (by first | omega | exact Nat.lt_of_le_of_lt (hw3 _) (by decide)) (by first | omega | exact Nat.lt_of_le_of_lt (hw3 _) (by decide)) (fun c_356 => ?_) (fun c_356 => ?_)
                            ·
                              refine q_ic 0 hx hb dX6_layWay_375 (by decide) ?_
                              refine lv_istore (lv' := [(6, .int (nI 0)), (10, .int (nI (t1 + 1))), (5, .int (nI (t1))), (4, .int (nI (nx t1 d))), (9, .int (nI 1)), (13, .int (nI (rtN w ro K d 6 t1))), (12, .int (nI ((7 * t1) + (nx t1 d)))), (11, .int (nI (mv w K ro 6 t1 d))), (0, .ref (ad 71)), (1, .int (nI (q0))), (2, .int (nI (q - fC w ro K d 6 t1))), (3, .int (nI (a1 + fC w ro K d 6 t1))), (7, .long (lN (fM w ro K d 6 6)))]) hx hb dX6_layWay_376 hl (by decide) rfl (fun ls hl => ?_)
                              have hnj := NJ_s hw hNJ hdK (show t1 < 6 by omega) hp1
                              have hbs := byN_s (w := w) (r := ro) hs18 hdK (show t1 < 6 by omega) hc hq2
                              have hfj := FJ_s (hbs ▸ hF) hs18
                              have hq3 : q - fC w ro K d 6 t1 < Cx' w K ro (K - nx t1 d) t1 := by have h8 := fC_s w ro K d 6 t1; rw [rt_p hp1] at h8; omega
                              have hen : bI (nx t1 d = K) = nI 0 := bI_f (by unfold nx; rw [if_neg (by omega)]; omega)
                              have hl : lv_has ls 14 [(6, .int (bI (nx t1 d = K))), (10, .int (nI (t1 + 1))), (5, .int (nI (t1))), (4, .int (nI (nx t1 d))), (9, .int (nI 1)), (13, .int (nI (rtN w ro K d 6 t1))), (12, .int (nI ((7 * t1) + (nx t1 d)))), (11, .int (nI (mv w K ro 6 t1 d))), (0, .ref (ad 71)), (1, .int (nI (q0))), (2, .int (nI (q - fC w ro K d 6 t1))), (3, .int (nI (a1 + fC w ro K d 6 t1))), (7, .long (lN (fM w ro K d 6 6)))] := by rw [hen]; exact hl
                              have hl : lv_has ls 14 [(6, .int (bI (nx t1 d = K))), (10, .int (nI (t1 + 1))), (5, .int (fr6 t1)), (4, .int (nI (nx t1 d))), (9, .int (nI 1)), (13, .int (nI (rtN w ro K d 6 t1))), (12, .int (nI ((7 * t1) + (nx t1 d)))), (11, .int (nI (mv w K ro 6 t1 d))), (0, .ref (ad 71)), (1, .int (nI (q0))), (2, .int (nI (q - fC w ro K d 6 t1))), (3, .int (nI (a1 + fC w ro K d 6 t1))), (7, .long (lN (fM w ro K d 6 6)))] := by rw [show fr6 t1 = nI t1 from if_neg (by omega)]; exact hl
                              refine lv_goto (tgt := 38) hx hb dX6_layWay_378 (by decide) ?_
                              exact ih_38 (s1 + 1) (nx t1 d) t1 (q - fC w ro K d 6 t1) (a1 + fC w ro K d 6 t1) (up2 (up2 I1 81 s1 (nI t1)) 71 12 (nI (s1 + 1))) (up2 L1 71 13 ((L1 71 13) * (lN (mv w K ro 6 t1 d)))) (by omega) hfj hnj hq3 _ _ hW _ (lv_sub hl [8, 9, 10, 11, 3, 2, 0] rfl)
                            ·
                              refine lv_iload hx hb dX6_layWay_359 (lv_at hl 2 rfl) ?_
                              refine lv_aload_n hx hb dX6_layWay_361 rfl (lv_at hl 7 rfl) ?_
                              refine g_6_0 (x := 71) (y := 72) hC hW (by omega) kd_71 gw_483 (hlk 71 0 72 (by omega) rfl) dX6_layWay_362 ?_
                              refine q_bp 58 hx hb dX6_layWay_365 (by decide) ?_
                              refine q_iald (x := 72) (i := 58) hC hW (by omega) kd_72 (by omega) dX6_layWay_367 ?_
                              refine q_top (v2 := .int (nI (K))) (congrArg _ (by rw [up2_ne (by decide), up2_ne (by decide)]; exact hN1.2.1)) ?_
                              refine q_cne (tgt := 375) hx hb dX6_layWay_368 (by decide) (by first | omega | exact Nat.lt_of_le_of_lt (hw3 _) (by decide)) (by first | omega | exact Nat.lt_of_le_of_lt (hw3 _) (by decide)) (fun c_368 => ?_) (fun c_368 => ?_)
                              ·
                                refine q_ic 0 hx hb dX6_layWay_375 (by decide) ?_
                                refine lv_istore (lv' := [(6, .int (nI 0)), (10, .int (nI (t1 + 1))), (5, .int (nI (t1))), (4, .int (nI (nx t1 d))), (9, .int (nI 1)), (13, .int (nI (rtN w ro K d 6 t1))), (12, .int (nI ((7 * t1) + (nx t1 d)))), (11, .int (nI (mv w K ro 6 t1 d))), (0, .ref (ad 71)), (1, .int (nI (q0))), (2, .int (nI (q - fC w ro K d 6 t1))), (3, .int (nI (a1 + fC w ro K d 6 t1))), (7, .long (lN (fM w ro K d 6 6)))]) hx hb dX6_layWay_376 hl (by decide) rfl (fun ls hl => ?_)
                                have hnj := NJ_s hw hNJ hdK (show t1 < 6 by omega) hp1
                                have hbs := byN_s (w := w) (r := ro) hs18 hdK (show t1 < 6 by omega) hc hq2
                                have hfj := FJ_s (hbs ▸ hF) hs18
                                have hq3 : q - fC w ro K d 6 t1 < Cx' w K ro (K - nx t1 d) t1 := by have h8 := fC_s w ro K d 6 t1; rw [rt_p hp1] at h8; omega
                                have hen : bI (nx t1 d = K) = nI 0 := bI_f (by omega)
                                have hl : lv_has ls 14 [(6, .int (bI (nx t1 d = K))), (10, .int (nI (t1 + 1))), (5, .int (nI (t1))), (4, .int (nI (nx t1 d))), (9, .int (nI 1)), (13, .int (nI (rtN w ro K d 6 t1))), (12, .int (nI ((7 * t1) + (nx t1 d)))), (11, .int (nI (mv w K ro 6 t1 d))), (0, .ref (ad 71)), (1, .int (nI (q0))), (2, .int (nI (q - fC w ro K d 6 t1))), (3, .int (nI (a1 + fC w ro K d 6 t1))), (7, .long (lN (fM w ro K d 6 6)))] := by rw [hen]; exact hl
                                have hl : lv_has ls 14 [(6, .int (bI (nx t1 d = K))), (10, .int (nI (t1 + 1))), (5, .int (fr6 t1)), (4, .int (nI (nx t1 d))), (9, .int (nI 1)), (13, .int (nI (rtN w ro K d 6 t1))), (12, .int (nI ((7 * t1) + (nx t1 d)))), (11, .int (nI (mv w K ro 6 t1 d))), (0, .ref (ad 71)), (1, .int (nI (q0))), (2, .int (nI (q - fC w ro K d 6 t1))), (3, .int (nI (a1 + fC w ro K d 6 t1))), (7, .long (lN (fM w ro K d 6 6)))] := by rw [show fr6 t1 = nI t1 from if_neg (by omega)]; exact hl
                                refine lv_goto (tgt := 38) hx hb dX6_layWay_378 (by decide) ?_
                                exact ih_38 (s1 + 1) (nx t1 d) t1 (q - fC w ro K d 6 t1) (a1 + fC w ro K d 6 t1) (up2 (up2 I1 81 s1 (nI t1)) 71 12 (nI (s1 + 1))) (up2 L1 71 13 ((L1 71 13) * (lN (mv w K ro 6 t1 d)))) (by omega) hfj hnj hq3 _ _ hW _ (lv_sub hl [8, 9, 10, 11, 3, 2, 0] rfl)
                              ·
                                refine q_ic 1 hx hb dX6_layWay_371 (by decide) ?_
                                refine lv_goto (tgt := 376) hx hb dX6_layWay_372 (by decide) ?_
                                refine lv_istore (lv' := [(6, .int (nI 1)), (10, .int (nI (t1 + 1))), (5, .int (nI (t1))), (4, .int (nI (nx t1 d))), (9, .int (nI 1)), (13, .int (nI (rtN w ro K d 6 t1))), (12, .int (nI ((7 * t1) + (nx t1 d)))), (11, .int (nI (mv w K ro 6 t1 d))), (0, .ref (ad 71)), (1, .int (nI (q0))), (2, .int (nI (q - fC w ro K d 6 t1))), (3, .int (nI (a1 + fC w ro K d 6 t1))), (7, .long (lN (fM w ro K d 6 6)))]) hx hb dX6_layWay_376 hl (by decide) rfl (fun ls hl => ?_)
                                have hnj := NJ_s hw hNJ hdK (show t1 < 6 by omega) hp1
                                have hbs := byN_s (w := w) (r := ro) hs18 hdK (show t1 < 6 by omega) hc hq2
                                have hfj := FJ_s (hbs ▸ hF) hs18
                                have hq3 : q - fC w ro K d 6 t1 < Cx' w K ro (K - nx t1 d) t1 := by have h8 := fC_s w ro K d 6 t1; rw [rt_p hp1] at h8; omega
                                have hen : bI (nx t1 d = K) = nI 1 := bI_t (by omega)
                                have hl : lv_has ls 14 [(6, .int (bI (nx t1 d = K))), (10, .int (nI (t1 + 1))), (5, .int (nI (t1))), (4, .int (nI (nx t1 d))), (9, .int (nI 1)), (13, .int (nI (rtN w ro K d 6 t1))), (12, .int (nI ((7 * t1) + (nx t1 d)))), (11, .int (nI (mv w K ro 6 t1 d))), (0, .ref (ad 71)), (1, .int (nI (q0))), (2, .int (nI (q - fC w ro K d 6 t1))), (3, .int (nI (a1 + fC w ro K d 6 t1))), (7, .long (lN (fM w ro K d 6 6)))] := by rw [hen]; exact hl
                                have hl : lv_has ls 14 [(6, .int (bI (nx t1 d = K))), (10, .int (nI (t1 + 1))), (5, .int (fr6 t1)), (4, .int (nI (nx t1 d))), (9, .int (nI 1)), (13, .int (nI (rtN w ro K d 6 t1))), (12, .int (nI ((7 * t1) + (nx t1 d)))), (11, .int (nI (mv w K ro 6 t1 d))), (0, .ref (ad 71)), (1, .int (nI (q0))), (2, .int (nI (q - fC w ro K d 6 t1))), (3, .int (nI (a1 + fC w ro K d 6 t1))), (7, .long (lN (fM w ro K d 6 6)))] := by rw [show fr6 t1 = nI t1 from if_neg (by omega)]; exact hl
                                refine lv_goto (tgt := 38) hx hb dX6_layWay_378 (by decide) ?_
                                exact ih_38 (s1 + 1) (nx t1 d) t1 (q - fC w ro K d 6 t1) (a1 + fC w ro K d 6 t1) (up2 (up2 I1 81 s1 (nI t1)) 71 12 (nI (s1 + 1))) (up2 L1 71 13 ((L1 71 13) * (lN (mv w K ro 6 t1 d)))) (by omega) hfj hnj hq3 _ _ hW _ (lv_sub hl [8, 9, 10, 11, 3, 2, 0] rfl)
                  exact lp_153 (6 + 1) 0 (by omega) (by omega) (Nat.zero_le _) _ _ hW _ (lv_sub hl [2, 3, 4, 5, 6, 7, 8, 1, 0] rfl)
                ·
                  refine lv_aload_n hx hb dX6_layWay_56 rfl (lv_at hl 0 rfl) ?_
                  refine lv_iload hx hb dX6_layWay_57 (lv_at hl 5 rfl) ?_
                  refine lv_if_ge (tgt := 72) hx hb dX6_layWay_59 (by decide) (fun c_59 => absurd c_59 (by decide)) (fun c_59 => ?_)
                  refine lv_aload_n hx hb dX6_layWay_62 rfl (lv_at hl 0 rfl) ?_
                  refine g_6_0 (x := 71) (y := 72) hC hW (by omega) kd_71 gw_483 (hlk 71 0 72 (by omega) rfl) dX6_layWay_63 ?_
                  refine lv_iload hx hb dX6_layWay_66 (lv_at hl 7 rfl) ?_
                  refine q_iald (x := 72) (i := t1) hC hW (by omega) kd_72 (by omega) dX6_layWay_68 ?_
                  refine q_top (v2 := .int (nI (w (6 * 6 + t1)))) (congrArg _ ((hN1.1 _ (by omega)).trans (congrArg nI (rwt_b w (by omega))))) ?_
                  refine lv_goto (tgt := 80) hx hb dX6_layWay_69 (by decide) ?_
                  refine lv_iload hx hb dX6_layWay_80 (lv_at hl 7 rfl) ?_
                  refine lv_iload hx hb dX6_layWay_82 (lv_at hl 4 rfl) ?_
                  refine q_kI0 (q_rV (As := [.int (nI (w (6 * 6 + t1))), .int (nI (t1)), .int (nI (d))]) (rest := []) (x := 71) hC hW mw_X6_going gw_590 (k_going l G n ad H.size I1 L1 R _ _ _ (hw3 _) (by omega) (by omega) w K ro hn hlk hN1) (by omega) (ct_o6 kd_71) rfl ⟨rfl, rfl⟩ ⟨Nat.le_of_ble_eq_true rfl, Nat.le_of_ble_eq_true rfl⟩ ⟨(Nat.le_of_ble_eq_true rfl), (Nat.le_of_ble_eq_true rfl)⟩ hl.1 rfl rfl (Nat.le_of_ble_eq_true rfl) dX6_layWay_84) hW (fun r_84 H locs hp hW => ?_)
                  subst hp
                  refine q_top (v2 := .int (nI (mv w K ro 6 t1 d))) rfl ?_
                  have hm9 := mv_le hw K ro 6 t1 d
                  refine q_i2l hx hb dX6_layWay_87 (by first | omega | exact Nat.lt_of_le_of_lt (hw3 _) (by decide)) ?_
                  refine lv_lstore (lv' := [(10, .long (lN (mv w K ro 6 t1 d))), (0, .ref (ad 71)), (1, .int (nI (q0))), (2, .int (nI (q))), (3, .int (nI (a1))), (4, .int (nI (d))), (5, .int (-6)), (7, .long (lN (fM w ro K d 6 t1))), (9, .int (nI (t1)))]) hx hb dX6_layWay_88 hl (by decide) rfl (fun ls hl => ?_)
                  refine lv_lload hx hb dX6_layWay_90 (lv_at hl 0 rfl) ?_
                  refine q_lc 0 hx hb dX6_layWay_92 (by decide) ?_
                  refine q_lcmp hx hb dX6_layWay_93 ?_
                  refine q_lle (tgt := 121) hx hb dX6_layWay_94 (by decide) (by first | decide | omega | assumption) (by first | decide | omega | assumption) (fun c_94 => ?_) (fun c_94 => ?_)
                  ·
                    have hz1 : mv w K ro 6 t1 d = 0 := by omega
                    refine q_lc 0 hx hb dX6_layWay_121 (by decide) ?_
                    refine lv_lstore (lv' := [(12, .long (lN 0)), (10, .long (lN (mv w K ro 6 t1 d))), (0, .ref (ad 71)), (1, .int (nI (q0))), (2, .int (nI (q))), (3, .int (nI (a1))), (4, .int (nI (d))), (5, .int (-6)), (7, .long (lN (fM w ro K d 6 t1))), (9, .int (nI (t1)))]) hx hb dX6_layWay_122 hl (by decide) rfl (fun ls hl => ?_)
                    refine lv_lload hx hb dX6_layWay_124 (lv_at hl 0 rfl) ?_
                    refine lv_lload hx hb dX6_layWay_126 (lv_at hl 8 rfl) ?_
                    refine q_lcmp hx hb dX6_layWay_128 ?_
                    refine q_lle (tgt := 137) hx hb dX6_layWay_129 (by decide) (by decide) (Nat.lt_of_le_of_lt (fM_b hw (r := ro) K d 6 t1 hk6) (by decide)) (fun c_129 => ?_) (fun c_129 => ?_)
                    ·
                      refine lv_lload hx hb dX6_layWay_137 (lv_at hl 8 rfl) ?_
                      refine q_top (v2 := .long (lN (fM w ro K d 6 (t1 + 1)))) (congrArg (fun z => Value.long (lN z)) (show fM w ro K d 6 t1 = fM w ro K d 6 (t1 + 1) from by have h9 := fM_n (w := w) (r := ro) (K := K) (d := d) (f := 6) (i := t1) hz1; omega)) ?_
                      refine lv_lstore (lv' := [(7, .long (lN (fM w ro K d 6 (t1 + 1)))), (12, .long (lN 0)), (10, .long (lN (mv w K ro 6 t1 d))), (0, .ref (ad 71)), (1, .int (nI (q0))), (2, .int (nI (q))), (3, .int (nI (a1))), (4, .int (nI (d))), (5, .int (-6)), (9, .int (nI (t1)))]) hx hb dX6_layWay_139 hl (by decide) rfl (fun ls hl => ?_)
                      refine q_iinc (z2 := t1 + 1) (lv' := [(9, .int (nI (t1 + 1))), (7, .long (lN (fM w ro K d 6 (t1 + 1)))), (12, .long (lN 0)), (10, .long (lN (mv w K ro 6 t1 d))), (0, .ref (ad 71)), (1, .int (nI (q0))), (2, .int (nI (q))), (3, .int (nI (a1))), (4, .int (nI (d))), (5, .int (-6))]) hx hb dX6_layWay_141 hl (k := 9) rfl (inc_up _ 1 (by decide)) (by decide) rfl (fun ls hl => ?_)
                      refine lv_goto (tgt := 49) hx hb dX6_layWay_144 (by decide) ?_
                      exact ih_49 (t1 + 1) (by omega) (by omega) _ _ hW _ (lv_sub hl [4, 5, 6, 7, 8, 9, 1, 0] rfl)
                    ·
                      refine lv_lload hx hb dX6_layWay_132 (lv_at hl 0 rfl) ?_
                      refine lv_goto (tgt := 139) hx hb dX6_layWay_134 (by decide) ?_
                      refine q_top (v2 := .long (lN (fM w ro K d 6 (t1 + 1)))) (congrArg (fun z => Value.long (lN z)) (show 0 = fM w ro K d 6 (t1 + 1) from by have h9 := fM_n (w := w) (r := ro) (K := K) (d := d) (f := 6) (i := t1) hz1; omega)) ?_
                      refine lv_lstore (lv' := [(7, .long (lN (fM w ro K d 6 (t1 + 1)))), (12, .long (lN 0)), (10, .long (lN (mv w K ro 6 t1 d))), (0, .ref (ad 71)), (1, .int (nI (q0))), (2, .int (nI (q))), (3, .int (nI (a1))), (4, .int (nI (d))), (5, .int (-6)), (9, .int (nI (t1)))]) hx hb dX6_layWay_139 hl (by decide) rfl (fun ls hl => ?_)
                      refine q_iinc (z2 := t1 + 1) (lv' := [(9, .int (nI (t1 + 1))), (7, .long (lN (fM w ro K d 6 (t1 + 1)))), (12, .long (lN 0)), (10, .long (lN (mv w K ro 6 t1 d))), (0, .ref (ad 71)), (1, .int (nI (q0))), (2, .int (nI (q))), (3, .int (nI (a1))), (4, .int (nI (d))), (5, .int (-6))]) hx hb dX6_layWay_141 hl (k := 9) rfl (inc_up _ 1 (by decide)) (by decide) rfl (fun ls hl => ?_)
                      refine lv_goto (tgt := 49) hx hb dX6_layWay_144 (by decide) ?_
                      exact ih_49 (t1 + 1) (by omega) (by omega) _ _ hW _ (lv_sub hl [4, 5, 6, 7, 8, 9, 1, 0] rfl)
                  ·
                    have hp1 : 0 < mv w K ro 6 t1 d := by omega
                    have hnx : nx t1 d ≤ K := nx_K2 hp1 (by omega)
                    have hmb := mM_lt hw (r := ro) K d 6 t1 hk6
                    refine lv_lload hx hb dX6_layWay_97 (lv_at hl 0 rfl) ?_
                    refine lv_aload_n hx hb dX6_layWay_99 rfl (lv_at hl 1 rfl) ?_
                    refine g_6_10 (x := 71) (y := 80) hC hW (by omega) kd_71 gw_493 (hlk 71 10 80 (by omega) rfl) dX6_layWay_100 ?_
                    refine q_bp 7 hx hb dX6_layWay_103 (by decide) ?_
                    refine lv_iload hx hb dX6_layWay_105 (lv_at hl 8 rfl) ?_
                    refine q_imul hx hb dX6_layWay_107 ?_
                    refine lv_iload hx hb dX6_layWay_108 (lv_at hl 8 rfl) ?_
                    refine lv_iload hx hb dX6_layWay_110 (lv_at hl 5 rfl) ?_
                    refine q_kI0 (q_rS (As := [.int (nI (t1)), .int (nI (d))]) (rest := [.int (nI (7 * t1)), .ref (ad 80), .long (lN (mv w K ro 6 t1 d))]) hC hW mw_X6_toldThen gw_598 (k_toldThen l G n ad H.size I1 L1 R _ _ (by omega) (by omega)) ⟨rfl, rfl⟩ ⟨Nat.le_of_ble_eq_true rfl, Nat.le_of_ble_eq_true rfl⟩ ⟨(Nat.le_of_ble_eq_true rfl), (Nat.le_of_ble_eq_true rfl)⟩ hl.1 rfl rfl (Nat.le_of_ble_eq_true rfl) dX6_layWay_112) hW (fun r_112 H locs hp hW => ?_)
                    subst hp
                    refine q_iadd hx hb dX6_layWay_115 ?_
                    refine q_lald (x := 80) (i := (7 * t1) + (nx t1 d)) hC hW (by omega) kd_80 (by omega) dX6_layWay_116 ?_
                    refine q_top (v2 := .long (lN (Mx' w K ro (K - (nx t1 d)) t1))) (congrArg _ (hB1 (nx t1 d) t1 (by omega) hnx (by omega)).2.1) ?_
                    refine q_lmul hx hb dX6_layWay_117 ?_
                    refine lv_goto (tgt := 122) hx hb dX6_layWay_118 (by decide) ?_
                    refine lv_lstore (lv' := [(12, .long (lN ((mv w K ro 6 t1 d) * (Mx' w K ro (K - (nx t1 d)) t1)))), (10, .long (lN (mv w K ro 6 t1 d))), (0, .ref (ad 71)), (1, .int (nI (q0))), (2, .int (nI (q))), (3, .int (nI (a1))), (4, .int (nI (d))), (5, .int (-6)), (7, .long (lN (fM w ro K d 6 t1))), (9, .int (nI (t1)))]) hx hb dX6_layWay_122 hl (by decide) rfl (fun ls hl => ?_)
                    refine lv_lload hx hb dX6_layWay_124 (lv_at hl 0 rfl) ?_
                    refine lv_lload hx hb dX6_layWay_126 (lv_at hl 8 rfl) ?_
                    refine q_lcmp hx hb dX6_layWay_128 ?_
                    refine q_lle (tgt := 137) hx hb dX6_layWay_129 (by decide) hmb (Nat.lt_of_le_of_lt (fM_b hw (r := ro) K d 6 t1 hk6) (by decide)) (fun c_129 => ?_) (fun c_129 => ?_)
                    ·
                      refine lv_lload hx hb dX6_layWay_137 (lv_at hl 8 rfl) ?_
                      refine q_top (v2 := .long (lN (fM w ro K d 6 (t1 + 1)))) (congrArg (fun z => Value.long (lN z)) (show fM w ro K d 6 t1 = fM w ro K d 6 (t1 + 1) from by have h9 := fM_p (w := w) (r := ro) (K := K) (d := d) (f := 6) (i := t1) hp1; omega)) ?_
                      refine lv_lstore (lv' := [(7, .long (lN (fM w ro K d 6 (t1 + 1)))), (12, .long (lN ((mv w K ro 6 t1 d) * (Mx' w K ro (K - (nx t1 d)) t1)))), (10, .long (lN (mv w K ro 6 t1 d))), (0, .ref (ad 71)), (1, .int (nI (q0))), (2, .int (nI (q))), (3, .int (nI (a1))), (4, .int (nI (d))), (5, .int (-6)), (9, .int (nI (t1)))]) hx hb dX6_layWay_139 hl (by decide) rfl (fun ls hl => ?_)
                      refine q_iinc (z2 := t1 + 1) (lv' := [(9, .int (nI (t1 + 1))), (7, .long (lN (fM w ro K d 6 (t1 + 1)))), (12, .long (lN ((mv w K ro 6 t1 d) * (Mx' w K ro (K - (nx t1 d)) t1)))), (10, .long (lN (mv w K ro 6 t1 d))), (0, .ref (ad 71)), (1, .int (nI (q0))), (2, .int (nI (q))), (3, .int (nI (a1))), (4, .int (nI (d))), (5, .int (-6))]) hx hb dX6_layWay_141 hl (k := 9) rfl (inc_up _ 1 (by decide)) (by decide) rfl (fun ls hl => ?_)
                      refine lv_goto (tgt := 49) hx hb dX6_layWay_144 (by decide) ?_
                      exact ih_49 (t1 + 1) (by omega) (by omega) _ _ hW _ (lv_sub hl [4, 5, 6, 7, 8, 9, 1, 0] rfl)
                    ·
                      refine lv_lload hx hb dX6_layWay_132 (lv_at hl 0 rfl) ?_
                      refine lv_goto (tgt := 139) hx hb dX6_layWay_134 (by decide) ?_
                      refine q_top (v2 := .long (lN (fM w ro K d 6 (t1 + 1)))) (congrArg (fun z => Value.long (lN z)) (show (mv w K ro 6 t1 d) * (Mx' w K ro (K - (nx t1 d)) t1) = fM w ro K d 6 (t1 + 1) from by have h9 := fM_p (w := w) (r := ro) (K := K) (d := d) (f := 6) (i := t1) hp1; omega)) ?_
                      refine lv_lstore (lv' := [(7, .long (lN (fM w ro K d 6 (t1 + 1)))), (12, .long (lN ((mv w K ro 6 t1 d) * (Mx' w K ro (K - (nx t1 d)) t1)))), (10, .long (lN (mv w K ro 6 t1 d))), (0, .ref (ad 71)), (1, .int (nI (q0))), (2, .int (nI (q))), (3, .int (nI (a1))), (4, .int (nI (d))), (5, .int (-6)), (9, .int (nI (t1)))]) hx hb dX6_layWay_139 hl (by decide) rfl (fun ls hl => ?_)
                      refine q_iinc (z2 := t1 + 1) (lv' := [(9, .int (nI (t1 + 1))), (7, .long (lN (fM w ro K d 6 (t1 + 1)))), (12, .long (lN ((mv w K ro 6 t1 d) * (Mx' w K ro (K - (nx t1 d)) t1)))), (10, .long (lN (mv w K ro 6 t1 d))), (0, .ref (ad 71)), (1, .int (nI (q0))), (2, .int (nI (q))), (3, .int (nI (a1))), (4, .int (nI (d))), (5, .int (-6))]) hx hb dX6_layWay_141 hl (k := 9) rfl (inc_up _ 1 (by decide)) (by decide) rfl (fun ls hl => ?_)
                      refine lv_goto (tgt := 49) hx hb dX6_layWay_144 (by decide) ?_
                      exact ih_49 (t1 + 1) (by omega) (by omega) _ _ hW _ (lv_sub hl [4, 5, 6, 7, 8, 9, 1, 0] rfl)
            exact lp_49 (6 + 1) 0 (by omega) (by omega) _ _ hW _ (lv_sub hl [2, 3, 4, 5, 6, 7, 1, 0] rfl)
    exact lp_38 (18 + 1) 0 0 6 q0 0 (up2 I 71 12 (nI 0)) (up2 L 71 13 (lN 1)) (by omega) (FJ_0 (by rw [up2_at, if_pos ⟨rfl, rfl⟩]) (by rw [up2_at, if_pos ⟨rfl, rfl⟩]) (fun a h1 _ => up2_ne h1) (fun j hj => by rw [up2_at, if_neg (fun q9 => hj q9.2)]) (fun a ha => up2_ne ha)) (NJ_0 K) hq0 _ _ hW _ (lv_sub hl [5, 6, 4, 3, 2, 1, 0] rfl)
  ·
    refine q_ic 1 hx hb dX6_layWay_31 (by decide) ?_
    refine lv_goto (tgt := 36) hx hb dX6_layWay_32 (by decide) ?_
    refine q_top (v2 := .int (bI (0 = K))) (congrArg Value.int (bI_t (p := 0 = K) (by omega)).symm) ?_
    refine lv_istore (lv' := [(6, .int (bI (0 = K))), (5, .int (fr6 6)), (4, .int (nI 0)), (3, .int (nI 0)), (2, .int (nI (q0))), (0, .ref (ad 71)), (1, .int (nI (q0)))]) hx hb dX6_layWay_36 hl (by decide) rfl (fun ls hl => ?_)
    have lp_38 : ∀ (fu_38 : Nat) (s1 : Nat) (d : Nat) (f : Nat) (q : Nat) (a1 : Nat) (I1 : Ic) (L1 : Lc), 18 - s1 < fu_38 → (FJ w ro K (wayN w ro K q0) (byN w ro K (19 - s1) d f q) I L s1 d f I1 L1) → (NJ K s1 d f) → (q < Cx' w K ro (K - d) f) → ∀ (H : Heap) (locs : List Loc), Wd G n ad I1 L1 R (qA n ad s.heap.size) s.heap H locs s → ∀ ls : Array Slot, lv_has ls 14 [(0, .ref (ad 71)), (1, .int (nI (q0))), (2, .int (nI (q))), (3, .int (nI (a1))), (4, .int (nI (d))), (5, .int (fr6 f)), (6, .int (bI (d = K)))] → W p_ l e_ ({ frames := 2, cells := 0, slots := 0, locals := 72 } : Room) s m_ ([.ref (ad 71), .int (nI (q0))] : List Value).toArray below meth c_ H locs 0 0 (MQ below (qI1 G (qA n ad s.heap.size) n ad R (fun z I1 L1 => FoB (wayN w ro K q0) (prN w ro K 0 6 (wayN w ro K q0)) I1 L1 ∧ (∀ a, a ≠ 71 → a ≠ 81 → I1 a = I a) ∧ (∀ j, j ≠ 12 → I1 71 j = I 71 j) ∧ (∀ a, a ≠ 71 → L1 a = L a))) ([.ref (ad 71), .int (nI (q0))] : List Value).toArray s 0 0 (qA n ad s.heap.size)) (F0 m_ 38 ls []) := by
      intro fu_38
      induction fu_38 with
      | zero =>
        intro s1 d f q a1 I1 L1 hm; exact absurd hm (Nat.not_lt_zero _)
      | succ fu_38 ih_38 =>
        intro s1 d f q a1 I1 L1 hm_38 hF hNJ hqC H locs hW ls hl
        have hN1 : NwI (I1 72) w K ro := by rw [hF.2.2.1 72 (by decide) (by decide)]; exact hN
        have hB1 : BhI w ro K I1 L1 0 := Bh_g hBh (hF.2.2.1 79 (by decide) (by decide)) (hF.2.2.2.2 78 (by decide)) (hF.2.2.2.2 80 (by decide))
        rcases Nat.lt_or_ge f 6 with hf6 | hf6
        ·
          rw [show fr6 f = nI f from if_neg (by omega)] at hl
          refine lv_iload hx hb dX6_layWay_38 (lv_at hl 6 rfl) ?_
          refine lv_if_ne (tgt := 381) hx hb dX6_layWay_40 (by decide) (fun c_40 => ?_) (fun c_40 => ?_)
          ·
            have hdK : d = K := bI_1 (p := d = K) c_40
            refine lv_iload_n hx hb dX6_layWay_381 rfl (lv_at hl 3 rfl) ?_
            exact q_iret1 hC hW hr hlk0 ⟨FJ_e hF (byN_e (by omega)) (by have h9 := hNJ.1; omega), hF.2.2.1, hF.2.2.2.1, hF.2.2.2.2⟩ dX6_layWay_382
          ·
            have hdn : ¬ d = K := bI_0 (p := d = K) c_40
            have hdK : d < K := by have h9 := hNJ.2.1; omega
            have hs18 : s1 < 18 := NJ_lt hNJ hk6 hdK
            have hMf : fM w ro K d f 6 = Mx' w K ro (K - d) f := (Mx_f hw K d f hdK).symm
            have hCf : Cx' w K ro (K - d) f = fC w ro K d f 6 := Cx_f hw K d f hdK
            have hCb := Cx_b hw (r := ro) K (K - d) f (by omega)
            refine q_lc 0 hx hb dX6_layWay_43 (by decide) ?_
            refine lv_lstore (lv' := [(7, .long (lN 0)), (0, .ref (ad 71)), (1, .int (nI (q0))), (2, .int (nI (q))), (3, .int (nI (a1))), (4, .int (nI (d))), (5, .int (nI (f))), (6, .int (bI (d = K)))]) hx hb dX6_layWay_44 hl (by decide) rfl (fun ls hl => ?_)
            refine q_ic 0 hx hb dX6_layWay_46 (by decide) ?_
            refine lv_istore (lv' := [(9, .int (nI 0)), (7, .long (lN 0)), (0, .ref (ad 71)), (1, .int (nI (q0))), (2, .int (nI (q))), (3, .int (nI (a1))), (4, .int (nI (d))), (5, .int (nI (f))), (6, .int (bI (d = K)))]) hx hb dX6_layWay_47 hl (by decide) rfl (fun ls hl => ?_)
            have lp_49 : ∀ (fu_49 : Nat) (t1 : Nat), 6 - t1 < fu_49 → (t1 ≤ 6) → ∀ (H : Heap) (locs : List Loc), Wd G n ad I1 L1 R (qA n ad s.heap.size) s.heap H locs s → ∀ ls : Array Slot, lv_has ls 14 [(0, .ref (ad 71)), (1, .int (nI (q0))), (2, .int (nI (q))), (3, .int (nI (a1))), (4, .int (nI (d))), (5, .int (nI (f))), (7, .long (lN (fM w ro K d f t1))), (9, .int (nI (t1)))] → W p_ l e_ ({ frames := 2, cells := 0, slots := 0, locals := 72 } : Room) s m_ ([.ref (ad 71), .int (nI (q0))] : List Value).toArray below meth c_ H locs 0 0 (MQ below (qI1 G (qA n ad s.heap.size) n ad R (fun z I1 L1 => FoB (wayN w ro K q0) (prN w ro K 0 6 (wayN w ro K q0)) I1 L1 ∧ (∀ a, a ≠ 71 → a ≠ 81 → I1 a = I a) ∧ (∀ j, j ≠ 12 → I1 71 j = I 71 j) ∧ (∀ a, a ≠ 71 → L1 a = L a))) ([.ref (ad 71), .int (nI (q0))] : List Value).toArray s 0 0 (qA n ad s.heap.size)) (F0 m_ 49 ls []) := by
              intro fu_49
              induction fu_49 with
              | zero =>
                intro t1 hm; exact absurd hm (Nat.not_lt_zero _)
              | succ fu_49 ih_49 =>
                intro t1 hm_49 ht6 H locs hW ls hl
                refine lv_iload hx hb dX6_layWay_49 (lv_at hl 7 rfl) ?_
                refine q_bp 6 hx hb dX6_layWay_51 (by decide) ?_
                refine q_cge (tgt := 147) hx hb dX6_layWay_53 (by decide) (by first | omega | exact Nat.lt_of_le_of_lt (hw3 _) (by decide)) (by first | omega | exact Nat.lt_of_le_of_lt (hw3 _) (by decide)) (fun c_53 => ?_) (fun c_53 => ?_)
                ·
                  have e6 : t1 = 6 := by omega
                  subst e6
                  refine q_ic 0 hx hb dX6_layWay_147 (by decide) ?_
                  refine lv_istore (lv' := [(9, .int (nI 0)), (0, .ref (ad 71)), (1, .int (nI (q0))), (2, .int (nI (q))), (3, .int (nI (a1))), (4, .int (nI (d))), (5, .int (nI (f))), (7, .long (lN (fM w ro K d f 6)))]) hx hb dX6_layWay_148 hl (by decide) rfl (fun ls hl => ?_)
                  refine q_ic 0 hx hb dX6_layWay_150 (by decide) ?_
                  refine lv_istore (lv' := [(10, .int (nI 0)), (9, .int (nI 0)), (0, .ref (ad 71)), (1, .int (nI (q0))), (2, .int (nI (q))), (3, .int (nI (a1))), (4, .int (nI (d))), (5, .int (nI (f))), (7, .long (lN (fM w ro K d f 6)))]) hx hb dX6_layWay_151 hl (by decide) rfl (fun ls hl => ?_)
                  have lp_153 : ∀ (fu_153 : Nat) (t1 : Nat), 6 - t1 < fu_153 → (t1 ≤ 6) → (fC w ro K d f t1 ≤ q) → ∀ (H : Heap) (locs : List Loc), Wd G n ad I1 L1 R (qA n ad s.heap.size) s.heap H locs s → ∀ ls : Array Slot, lv_has ls 14 [(0, .ref (ad 71)), (1, .int (nI (q0))), (2, .int (nI (q - fC w ro K d f t1))), (3, .int (nI (a1 + fC w ro K d f t1))), (4, .int (nI (d))), (5, .int (nI (f))), (7, .long (lN (fM w ro K d f 6))), (9, .int (nI 0)), (10, .int (nI (t1)))] → W p_ l e_ ({ frames := 2, cells := 0, slots := 0, locals := 72 } : Room) s m_ ([.ref (ad 71), .int (nI (q0))] : List Value).toArray below meth c_ H locs 0 0 (MQ below (qI1 G (qA n ad s.heap.size) n ad R (fun z I1 L1 => FoB (wayN w ro K q0) (prN w ro K 0 6 (wayN w ro K q0)) I1 L1 ∧ (∀ a, a ≠ 71 → a ≠ 81 → I1 a = I a) ∧ (∀ j, j ≠ 12 → I1 71 j = I 71 j) ∧ (∀ a, a ≠ 71 → L1 a = L a))) ([.ref (ad 71), .int (nI (q0))] : List Value).toArray s 0 0 (qA n ad s.heap.size)) (F0 m_ 153 ls []) := by
                    intro fu_153
                    induction fu_153 with
                    | zero =>
                      intro t1 hm; exact absurd hm (Nat.not_lt_zero _)
                    | succ fu_153 ih_153 =>
                      intro t1 hm_153 ht6 hc H locs hW ls hl
                      refine lv_iload hx hb dX6_layWay_153 (lv_at hl 8 rfl) ?_
                      refine q_bp 6 hx hb dX6_layWay_155 (by decide) ?_
                      refine q_cge (tgt := 353) hx hb dX6_layWay_157 (by decide) (by first | omega | exact Nat.lt_of_le_of_lt (hw3 _) (by decide)) (by first | omega | exact Nat.lt_of_le_of_lt (hw3 _) (by decide)) (fun c_157 => absurd c_157 (fun q9 => by have e9 : fC w ro K d f t1 = fC w ro K d f 6 := (by rw [show t1 = 6 by omega]); omega)) (fun c_157 => ?_)
                      refine lv_iload hx hb dX6_layWay_160 (lv_at hl 7 rfl) ?_
                      refine q_ine (tgt := 353) hx hb dX6_layWay_162 (by decide) (by first | omega | exact Nat.lt_of_le_of_lt (hw3 _) (by decide)) (fun c_162 => absurd c_162 (by decide)) (fun c_162 => ?_)
                      refine lv_aload_n hx hb dX6_layWay_165 rfl (lv_at hl 0 rfl) ?_
                      refine lv_iload hx hb dX6_layWay_166 (lv_at hl 5 rfl) ?_
                      refine lv_if_ge (tgt := 181) hx hb dX6_layWay_168 (by decide) (fun c_168 => ?_) (fun c_168 => absurd (Int32.not_lt.mp (nI_pos (by omega))) c_168)
                      refine lv_aload_n hx hb dX6_layWay_181 rfl (lv_at hl 0 rfl) ?_
                      refine lv_iload hx hb dX6_layWay_182 (lv_at hl 5 rfl) ?_
                      refine lv_iload hx hb dX6_layWay_184 (lv_at hl 8 rfl) ?_
                      refine q_kI0 (q_rV (As := [.int (nI (f)), .int (nI (t1))]) (rest := [.ref (ad 71)]) (x := 71) hC hW mw_X6_step gw_586 (k_step l G n ad H.size I1 L1 R _ _ (by omega) (by omega) w K ro hn hlk hN1) (by omega) (ct_o6 kd_71) rfl ⟨rfl, rfl⟩ ⟨Nat.le_of_ble_eq_true rfl, Nat.le_of_ble_eq_true rfl⟩ ⟨(Nat.le_of_ble_eq_true rfl), (Nat.le_of_ble_eq_true rfl)⟩ hl.1 rfl rfl (Nat.le_of_ble_eq_true rfl) dX6_layWay_186) hW (fun r_186 H locs hp hW => ?_)
                      subst hp
                      refine lv_iload hx hb dX6_layWay_189 (lv_at hl 8 rfl) ?_
                      refine lv_iload hx hb dX6_layWay_191 (lv_at hl 4 rfl) ?_
                      refine q_kI0 (q_rV (As := [.int (nI (w (f * 6 + t1))), .int (nI (t1)), .int (nI (d))]) (rest := []) (x := 71) hC hW mw_X6_going gw_590 (k_going l G n ad H.size I1 L1 R _ _ _ (hw3 _) (by omega) (by omega) w K ro hn hlk hN1) (by omega) (ct_o6 kd_71) rfl ⟨rfl, rfl⟩ ⟨Nat.le_of_ble_eq_true rfl, Nat.le_of_ble_eq_true rfl⟩ ⟨(Nat.le_of_ble_eq_true rfl), (Nat.le_of_ble_eq_true rfl)⟩ hl.1 rfl rfl (Nat.le_of_ble_eq_true rfl) dX6_layWay_193) hW (fun r_193 H locs hp hW => ?_)
                      subst hp
                      refine q_top (v2 := .int (nI (mv w K ro f t1 d))) rfl ?_
                      have hm9 := mv_le hw K ro f t1 d
                      refine lv_istore (lv' := [(11, .int (nI (mv w K ro f t1 d))), (0, .ref (ad 71)), (1, .int (nI (q0))), (2, .int (nI (q - fC w ro K d f t1))), (3, .int (nI (a1 + fC w ro K d f t1))), (4, .int (nI (d))), (5, .int (nI (f))), (7, .long (lN (fM w ro K d f 6))), (9, .int (nI 0)), (10, .int (nI (t1)))]) hx hb dX6_layWay_196 hl (by decide) rfl (fun ls hl => ?_)
                      refine q_bp 7 hx hb dX6_layWay_198 (by decide) ?_
                      refine lv_iload hx hb dX6_layWay_200 (lv_at hl 9 rfl) ?_
                      refine q_imul hx hb dX6_layWay_202 ?_
                      refine lv_iload hx hb dX6_layWay_203 (lv_at hl 9 rfl) ?_
                      refine lv_iload hx hb dX6_layWay_205 (lv_at hl 5 rfl) ?_
                      refine q_kI0 (q_rS (As := [.int (nI (t1)), .int (nI (d))]) (rest := [.int (nI (7 * t1))]) hC hW mw_X6_toldThen gw_598 (k_toldThen l G n ad H.size I1 L1 R _ _ (by omega) (by omega)) ⟨rfl, rfl⟩ ⟨Nat.le_of_ble_eq_true rfl, Nat.le_of_ble_eq_true rfl⟩ ⟨(Nat.le_of_ble_eq_true rfl), (Nat.le_of_ble_eq_true rfl)⟩ hl.1 rfl rfl (Nat.le_of_ble_eq_true rfl) dX6_layWay_207) hW (fun r_207 H locs hp hW => ?_)
                      subst hp
                      refine q_iadd hx hb dX6_layWay_210 ?_
                      refine lv_istore (lv' := [(12, .int (nI ((7 * t1) + (nx t1 d)))), (11, .int (nI (mv w K ro f t1 d))), (0, .ref (ad 71)), (1, .int (nI (q0))), (2, .int (nI (q - fC w ro K d f t1))), (3, .int (nI (a1 + fC w ro K d f t1))), (4, .int (nI (d))), (5, .int (nI (f))), (7, .long (lN (fM w ro K d f 6))), (9, .int (nI 0)), (10, .int (nI (t1)))]) hx hb dX6_layWay_211 hl (by decide) rfl (fun ls hl => ?_)
                      refine lv_iload hx hb dX6_layWay_213 (lv_at hl 1 rfl) ?_
                      refine q_ile (tgt := 228) hx hb dX6_layWay_215 (by decide) (by first | omega | exact Nat.lt_of_le_of_lt (hw3 _) (by decide)) (fun c_215 => ?_) (fun c_215 => ?_)
                      ·
                        have hz1 : mv w K ro f t1 d = 0 := by omega
                        refine q_ic 0 hx hb dX6_layWay_228 (by decide) ?_
                        have hrb := rtN_b hw (r := ro) (K := K) (d := d) (f := f) (t := t1) hk6
                        refine q_top (v2 := .int (nI (rtN w ro K d f t1))) (by rw [rt_n hz1]) ?_
                        refine lv_istore (lv' := [(13, .int (nI (rtN w ro K d f t1))), (12, .int (nI ((7 * t1) + (nx t1 d)))), (11, .int (nI (mv w K ro f t1 d))), (0, .ref (ad 71)), (1, .int (nI (q0))), (2, .int (nI (q - fC w ro K d f t1))), (3, .int (nI (a1 + fC w ro K d f t1))), (4, .int (nI (d))), (5, .int (nI (f))), (7, .long (lN (fM w ro K d f 6))), (9, .int (nI 0)), (10, .int (nI (t1)))]) hx hb dX6_layWay_229 hl (by decide) rfl (fun ls hl => ?_)
                        refine lv_iload_n hx hb dX6_layWay_231 rfl (lv_at hl 4 rfl) ?_
                        refine lv_if_ge (tgt := 270) hx hb dX6_layWay_232 (by decide) (fun c_232 => ?_) (fun c_232 => absurd (Int32.not_lt.mp (nI_pos (by omega))) c_232)
                        refine lv_iload_n hx hb dX6_layWay_270 rfl (lv_at hl 5 rfl) ?_
                        refine lv_iload hx hb dX6_layWay_271 (lv_at hl 0 rfl) ?_
                        refine q_cge (tgt := 280) hx hb dX6_layWay_273 (by decide) (by first | omega | exact Nat.lt_of_le_of_lt (hw3 _) (by decide)) (by first | omega | exact Nat.lt_of_le_of_lt (hw3 _) (by decide)) (fun c_273 => ?_) (fun c_273 => ?_)
                        ·
                          refine q_ic 0 hx hb dX6_layWay_280 (by decide) ?_
                          refine lv_istore (lv' := [(9, .int (nI 0)), (13, .int (nI (rtN w ro K d f t1))), (12, .int (nI ((7 * t1) + (nx t1 d)))), (11, .int (nI (mv w K ro f t1 d))), (0, .ref (ad 71)), (1, .int (nI (q0))), (2, .int (nI (q - fC w ro K d f t1))), (3, .int (nI (a1 + fC w ro K d f t1))), (4, .int (nI (d))), (5, .int (nI (f))), (7, .long (lN (fM w ro K d f 6))), (10, .int (nI (t1)))]) hx hb dX6_layWay_281 hl (by decide) rfl (fun ls hl => ?_)
                          refine lv_iload hx hb dX6_layWay_283 (lv_at hl 0 rfl) ?_
                          refine q_ieq (tgt := 337) hx hb dX6_layWay_285 (by decide) (by first | omega | exact Nat.lt_of_le_of_lt (hw3 _) (by decide)) (fun c_285 => ?_) (fun c_285 => absurd c_285 (by decide))
                          refine lv_iload_n hx hb dX6_layWay_337 rfl (lv_at hl 6 rfl) ?_
                          refine lv_iload hx hb dX6_layWay_338 (lv_at hl 1 rfl) ?_
                          refine q_isub hx hb dX6_layWay_340 (by omega) ?_
                          refine q_top (v2 := .int (nI (q - fC w ro K d f (t1 + 1)))) (by rw [fC_s, Nat.sub_add_eq]) ?_
                          refine lv_istore_n (lv' := [(2, .int (nI (q - fC w ro K d f (t1 + 1)))), (9, .int (nI 0)), (13, .int (nI (rtN w ro K d f t1))), (12, .int (nI ((7 * t1) + (nx t1 d)))), (11, .int (nI (mv w K ro f t1 d))), (0, .ref (ad 71)), (1, .int (nI (q0))), (3, .int (nI (a1 + fC w ro K d f t1))), (4, .int (nI (d))), (5, .int (nI (f))), (7, .long (lN (fM w ro K d f 6))), (10, .int (nI (t1)))]) hx hb dX6_layWay_341 rfl hl (by decide) rfl (fun ls hl => ?_)
                          refine lv_iload_n hx hb dX6_layWay_342 rfl (lv_at hl 7 rfl) ?_
                          refine lv_iload hx hb dX6_layWay_343 (lv_at hl 2 rfl) ?_
                          refine q_iadd hx hb dX6_layWay_345 ?_
                          refine q_top (v2 := .int (nI (a1 + fC w ro K d f (t1 + 1)))) (by rw [fC_s, Nat.add_assoc]) ?_
                          refine lv_istore_n (lv' := [(3, .int (nI (a1 + fC w ro K d f (t1 + 1)))), (2, .int (nI (q - fC w ro K d f (t1 + 1)))), (9, .int (nI 0)), (13, .int (nI (rtN w ro K d f t1))), (12, .int (nI ((7 * t1) + (nx t1 d)))), (11, .int (nI (mv w K ro f t1 d))), (0, .ref (ad 71)), (1, .int (nI (q0))), (4, .int (nI (d))), (5, .int (nI (f))), (7, .long (lN (fM w ro K d f 6))), (10, .int (nI (t1)))]) hx hb dX6_layWay_346 rfl hl (by decide) rfl (fun ls hl => ?_)
                          refine q_iinc (z2 := t1 + 1) (lv' := [(10, .int (nI (t1 + 1))), (3, .int (nI (a1 + fC w ro K d f (t1 + 1)))), (2, .int (nI (q - fC w ro K d f (t1 + 1)))), (9, .int (nI 0)), (13, .int (nI (rtN w ro K d f t1))), (12, .int (nI ((7 * t1) + (nx t1 d)))), (11, .int (nI (mv w K ro f t1 d))), (0, .ref (ad 71)), (1, .int (nI (q0))), (4, .int (nI (d))), (5, .int (nI (f))), (7, .long (lN (fM w ro K d f 6)))]) hx hb dX6_layWay_347 hl (k := 11) rfl (inc_up _ 1 (by decide)) (by decide) rfl (fun ls hl => ?_)
                          refine lv_goto (tgt := 153) hx hb dX6_layWay_350 (by decide) ?_
                          exact ih_153 (t1 + 1) (by omega) (by omega) (by rw [fC_s]; omega) _ _ hW _ (lv_sub hl [7, 8, 2, 1, 9, 10, 11, 3, 0] rfl)
                        ·
                          refine q_ic 1 hx hb dX6_layWay_276 (by decide) ?_
                          refine lv_goto (tgt := 281) hx hb dX6_layWay_277 (by decide) ?_
                          have hq2 : q < fC w ro K d f (t1 + 1) := by rw [fC_s]; omega
                          have hp1 : 0 < mv w K ro f t1 d := (rt_step (by omega : 0 < rtN w ro K d f t1)).1
                          refine lv_istore (lv' := [(9, .int (nI 1)), (13, .int (nI (rtN w ro K d f t1))), (12, .int (nI ((7 * t1) + (nx t1 d)))), (11, .int (nI (mv w K ro f t1 d))), (0, .ref (ad 71)), (1, .int (nI (q0))), (2, .int (nI (q - fC w ro K d f t1))), (3, .int (nI (a1 + fC w ro K d f t1))), (4, .int (nI (d))), (5, .int (nI (f))), (7, .long (lN (fM w ro K d f 6))), (10, .int (nI (t1)))]) hx hb dX6_layWay_281 hl (by decide) rfl (fun ls hl => ?_)
                          refine lv_iload hx hb dX6_layWay_283 (lv_at hl 0 rfl) ?_
                          refine q_ieq (tgt := 337) hx hb dX6_layWay_285 (by decide) (by first | omega | exact Nat.lt_of_le_of_lt (hw3 _) (by decide)) (fun c_285 => absurd c_285 (by decide)) (fun c_285 => ?_)
                          refine lv_aload_n hx hb dX6_layWay_288 rfl (lv_at hl 4 rfl) ?_
                          refine g_6_11 (x := 71) (y := 81) hC hW (by omega) kd_71 gw_494 (hlk 71 11 81 (by omega) rfl) dX6_layWay_289 ?_
                          refine lv_aload_n hx hb dX6_layWay_292 rfl (lv_at hl 4 rfl) ?_
                          refine g_6_12 (x := 71) hC hW (by omega) kd_71 gw_495 dX6_layWay_293 ?_
                          refine q_top (v2 := .int (nI (s1))) (congrArg _ hF.2.1) ?_
                          refine lv_iload hx hb dX6_layWay_296 (lv_at hl 11 rfl) ?_
                          refine q_iast (x := 81) (i := s1) (v := nI t1) hC hW (by omega) kd_81 (by omega) dX6_layWay_298 (fun H locs hW => ?_)
                          refine lv_aload_n hx hb dX6_layWay_299 rfl (lv_at hl 4 rfl) ?_
                          refine lv_dup hx hb dX6_layWay_300 rfl ?_
                          refine g_6_12 (x := 71) hC hW (by omega) kd_71 gw_495 dX6_layWay_301 ?_
                          refine q_top (v2 := .int (nI (s1))) (congrArg _ (by rw [up2_ne (by decide)]; exact hF.2.1)) ?_
                          refine q_ic 1 hx hb dX6_layWay_304 (by decide) ?_
                          refine q_iadd hx hb dX6_layWay_305 ?_
                          refine p_6_12 (x := 71) (v := nI (s1 + 1)) hC hW (by omega) kd_71 gw_495 dX6_layWay_306 (fun H locs hW => ?_)
                          refine lv_aload_n hx hb dX6_layWay_309 rfl (lv_at hl 4 rfl) ?_
                          refine lv_dup hx hb dX6_layWay_310 rfl ?_
                          refine g_6_13 (x := 71) hC hW (by omega) kd_71 gw_496 dX6_layWay_311 ?_
                          refine lv_iload hx hb dX6_layWay_314 (lv_at hl 3 rfl) ?_
                          refine q_i2l hx hb dX6_layWay_316 (by first | omega | exact Nat.lt_of_le_of_lt (hw3 _) (by decide)) ?_
                          refine lv_lmul hx hb dX6_layWay_317 ?_
                          refine p_6_13 (x := 71) (v := (L1 71 13) * (lN (mv w K ro f t1 d))) hC hW (by omega) kd_71 gw_496 dX6_layWay_318 (fun H locs hW => ?_)
                          refine lv_iload hx hb dX6_layWay_321 (lv_at hl 11 rfl) ?_
                          refine lv_iload hx hb dX6_layWay_323 (lv_at hl 8 rfl) ?_
                          refine q_kI0 (q_rS (As := [.int (nI (t1)), .int (nI (d))]) (rest := []) hC hW mw_X6_toldThen gw_598 (k_toldThen l G n ad H.size (up2 (up2 I1 81 s1 (nI t1)) 71 12 (nI (s1 + 1))) (up2 L1 71 13 ((L1 71 13) * (lN (mv w K ro f t1 d)))) R _ _ (by omega) (by omega)) ⟨rfl, rfl⟩ ⟨Nat.le_of_ble_eq_true rfl, Nat.le_of_ble_eq_true rfl⟩ ⟨(Nat.le_of_ble_eq_true rfl), (Nat.le_of_ble_eq_true rfl)⟩ hl.1 rfl rfl (Nat.le_of_ble_eq_true rfl) dX6_layWay_325) hW (fun r_325 H locs hp hW => ?_)
                          subst hp
                          refine lv_istore (lv' := [(4, .int (nI (nx t1 d))), (9, .int (nI 1)), (13, .int (nI (rtN w ro K d f t1))), (12, .int (nI ((7 * t1) + (nx t1 d)))), (11, .int (nI (mv w K ro f t1 d))), (0, .ref (ad 71)), (1, .int (nI (q0))), (2, .int (nI (q - fC w ro K d f t1))), (3, .int (nI (a1 + fC w ro K d f t1))), (5, .int (nI (f))), (7, .long (lN (fM w ro K d f 6))), (10, .int (nI (t1)))]) hx hb dX6_layWay_328 hl (by decide) rfl (fun ls hl => ?_)
                          refine lv_iload hx hb dX6_layWay_330 (lv_at hl 11 rfl) ?_
                          refine lv_istore (lv' := [(5, .int (nI (t1))), (4, .int (nI (nx t1 d))), (9, .int (nI 1)), (13, .int (nI (rtN w ro K d f t1))), (12, .int (nI ((7 * t1) + (nx t1 d)))), (11, .int (nI (mv w K ro f t1 d))), (0, .ref (ad 71)), (1, .int (nI (q0))), (2, .int (nI (q - fC w ro K d f t1))), (3, .int (nI (a1 + fC w ro K d f t1))), (7, .long (lN (fM w ro K d f 6))), (10, .int (nI (t1)))]) hx hb dX6_layWay_332 hl (by decide) rfl (fun ls hl => ?_)
                          refine lv_goto (tgt := 347) hx hb dX6_layWay_334 (by decide) ?_
                          refine q_iinc (z2 := t1 + 1) (lv' := [(10, .int (nI (t1 + 1))), (5, .int (nI (t1))), (4, .int (nI (nx t1 d))), (9, .int (nI 1)), (13, .int (nI (rtN w ro K d f t1))), (12, .int (nI ((7 * t1) + (nx t1 d)))), (11, .int (nI (mv w K ro f t1 d))), (0, .ref (ad 71)), (1, .int (nI (q0))), (2, .int (nI (q - fC w ro K d f t1))), (3, .int (nI (a1 + fC w ro K d f t1))), (7, .long (lN (fM w ro K d f 6)))]) hx hb dX6_layWay_347 hl (k := 11) rfl (inc_up _ 1 (by decide)) (by decide) rfl (fun ls hl => ?_)
                          refine lv_goto (tgt := 153) hx hb dX6_layWay_350 (by decide) ?_
                          refine lv_iload hx hb dX6_layWay_153 (lv_at hl 0 rfl) ?_
                          refine q_bp 6 hx hb dX6_layWay_155 (by decide) ?_
                          refine q_cge (tgt := 353) hx hb dX6_layWay_157 (by decide) (by first | omega | exact Nat.lt_of_le_of_lt (hw3 _) (by decide)) (by first | omega | exact Nat.lt_of_le_of_lt (hw3 _) (by decide)) (fun c_157 => ?_) (fun c_157 => ?_)
                          ·
                            refine lv_iload hx hb dX6_layWay_353 (lv_at hl 1 rfl) ?_
                            refine q_ic 4 hx hb dX6_layWay_355 (by decide) ?_
                            refine q_cge (tgt := 375) hx hb dX6_layWay_356 (by decide) (by first | omega | exact Nat.lt_of_le_of_lt (hw3 _) (by decide)) (by first | omega | exact Nat.lt_of_le_of_lt (hw3 _) (by decide)) (fun c_356 => ?_) (fun c_356 => ?_)
                            ·
                              refine q_ic 0 hx hb dX6_layWay_375 (by decide) ?_
                              refine lv_istore (lv' := [(6, .int (nI 0)), (10, .int (nI (t1 + 1))), (5, .int (nI (t1))), (4, .int (nI (nx t1 d))), (9, .int (nI 1)), (13, .int (nI (rtN w ro K d f t1))), (12, .int (nI ((7 * t1) + (nx t1 d)))), (11, .int (nI (mv w K ro f t1 d))), (0, .ref (ad 71)), (1, .int (nI (q0))), (2, .int (nI (q - fC w ro K d f t1))), (3, .int (nI (a1 + fC w ro K d f t1))), (7, .long (lN (fM w ro K d f 6)))]) hx hb dX6_layWay_376 hl (by decide) rfl (fun ls hl => ?_)
                              have hnj := NJ_s hw hNJ hdK (show t1 < 6 by omega) hp1
                              have hbs := byN_s (w := w) (r := ro) hs18 hdK (show t1 < 6 by omega) hc hq2
                              have hfj := FJ_s (hbs ▸ hF) hs18
                              have hq3 : q - fC w ro K d f t1 < Cx' w K ro (K - nx t1 d) t1 := by have h8 := fC_s w ro K d f t1; rw [rt_p hp1] at h8; omega
                              have hen : bI (nx t1 d = K) = nI 0 := bI_f (by unfold nx; rw [if_neg (by omega)]; omega)
                              have hl : lv_has ls 14 [(6, .int (bI (nx t1 d = K))), (10, .int (nI (t1 + 1))), (5, .int (nI (t1))), (4, .int (nI (nx t1 d))), (9, .int (nI 1)), (13, .int (nI (rtN w ro K d f t1))), (12, .int (nI ((7 * t1) + (nx t1 d)))), (11, .int (nI (mv w K ro f t1 d))), (0, .ref (ad 71)), (1, .int (nI (q0))), (2, .int (nI (q - fC w ro K d f t1))), (3, .int (nI (a1 + fC w ro K d f t1))), (7, .long (lN (fM w ro K d f 6)))] := by rw [hen]; exact hl
                              have hl : lv_has ls 14 [(6, .int (bI (nx t1 d = K))), (10, .int (nI (t1 + 1))), (5, .int (fr6 t1)), (4, .int (nI (nx t1 d))), (9, .int (nI 1)), (13, .int (nI (rtN w ro K d f t1))), (12, .int (nI ((7 * t1) + (nx t1 d)))), (11, .int (nI (mv w K ro f t1 d))), (0, .ref (ad 71)), (1, .int (nI (q0))), (2, .int (nI (q - fC w ro K d f t1))), (3, .int (nI (a1 + fC w ro K d f t1))), (7, .long (lN (fM w ro K d f 6)))] := by rw [show fr6 t1 = nI t1 from if_neg (by omega)]; exact hl
                              refine lv_goto (tgt := 38) hx hb dX6_layWay_378 (by decide) ?_
                              exact ih_38 (s1 + 1) (nx t1 d) t1 (q - fC w ro K d f t1) (a1 + fC w ro K d f t1) (up2 (up2 I1 81 s1 (nI t1)) 71 12 (nI (s1 + 1))) (up2 L1 71 13 ((L1 71 13) * (lN (mv w K ro f t1 d)))) (by omega) hfj hnj hq3 _ _ hW _ (lv_sub hl [8, 9, 10, 11, 3, 2, 0] rfl)
                            ·
                              refine lv_iload hx hb dX6_layWay_359 (lv_at hl 2 rfl) ?_
                              refine lv_aload_n hx hb dX6_layWay_361 rfl (lv_at hl 7 rfl) ?_
                              refine g_6_0 (x := 71) (y := 72) hC hW (by omega) kd_71 gw_483 (hlk 71 0 72 (by omega) rfl) dX6_layWay_362 ?_
                              refine q_bp 58 hx hb dX6_layWay_365 (by decide) ?_
                              refine q_iald (x := 72) (i := 58) hC hW (by omega) kd_72 (by omega) dX6_layWay_367 ?_
                              refine q_top (v2 := .int (nI (K))) (congrArg _ (by rw [up2_ne (by decide), up2_ne (by decide)]; exact hN1.2.1)) ?_
                              refine q_cne (tgt := 375) hx hb dX6_layWay_368 (by decide) (by first | omega | exact Nat.lt_of_le_of_lt (hw3 _) (by decide)) (by first | omega | exact Nat.lt_of_le_of_lt (hw3 _) (by decide)) (fun c_368 => ?_) (fun c_368 => ?_)
                              ·
                                refine q_ic 0 hx hb dX6_layWay_375 (by decide) ?_
                                refine lv_istore (lv' := [(6, .int (nI 0)), (10, .int (nI (t1 + 1))), (5, .int (nI (t1))), (4, .int (nI (nx t1 d))), (9, .int (nI 1)), (13, .int (nI (rtN w ro K d f t1))), (12, .int (nI ((7 * t1) + (nx t1 d)))), (11, .int (nI (mv w K ro f t1 d))), (0, .ref (ad 71)), (1, .int (nI (q0))), (2, .int (nI (q - fC w ro K d f t1))), (3, .int (nI (a1 + fC w ro K d f t1))), (7, .long (lN (fM w ro K d f 6)))]) hx hb dX6_layWay_376 hl (by decide) rfl (fun ls hl => ?_)
                                have hnj := NJ_s hw hNJ hdK (show t1 < 6 by omega) hp1
                                have hbs := byN_s (w := w) (r := ro) hs18 hdK (show t1 < 6 by omega) hc hq2
                                have hfj := FJ_s (hbs ▸ hF) hs18
                                have hq3 : q - fC w ro K d f t1 < Cx' w K ro (K - nx t1 d) t1 := by have h8 := fC_s w ro K d f t1; rw [rt_p hp1] at h8; omega
                                have hen : bI (nx t1 d = K) = nI 0 := bI_f (by omega)
                                have hl : lv_has ls 14 [(6, .int (bI (nx t1 d = K))), (10, .int (nI (t1 + 1))), (5, .int (nI (t1))), (4, .int (nI (nx t1 d))), (9, .int (nI 1)), (13, .int (nI (rtN w ro K d f t1))), (12, .int (nI ((7 * t1) + (nx t1 d)))), (11, .int (nI (mv w K ro f t1 d))), (0, .ref (ad 71)), (1, .int (nI (q0))), (2, .int (nI (q - fC w ro K d f t1))), (3, .int (nI (a1 + fC w ro K d f t1))), (7, .long (lN (fM w ro K d f 6)))] := by rw [hen]; exact hl
                                have hl : lv_has ls 14 [(6, .int (bI (nx t1 d = K))), (10, .int (nI (t1 + 1))), (5, .int (fr6 t1)), (4, .int (nI (nx t1 d))), (9, .int (nI 1)), (13, .int (nI (rtN w ro K d f t1))), (12, .int (nI ((7 * t1) + (nx t1 d)))), (11, .int (nI (mv w K ro f t1 d))), (0, .ref (ad 71)), (1, .int (nI (q0))), (2, .int (nI (q - fC w ro K d f t1))), (3, .int (nI (a1 + fC w ro K d f t1))), (7, .long (lN (fM w ro K d f 6)))] := by rw [show fr6 t1 = nI t1 from if_neg (by omega)]; exact hl
                                refine lv_goto (tgt := 38) hx hb dX6_layWay_378 (by decide) ?_
                                exact ih_38 (s1 + 1) (nx t1 d) t1 (q - fC w ro K d f t1) (a1 + fC w ro K d f t1) (up2 (up2 I1 81 s1 (nI t1)) 71 12 (nI (s1 + 1))) (up2 L1 71 13 ((L1 71 13) * (lN (mv w K ro f t1 d)))) (by omega) hfj hnj hq3 _ _ hW _ (lv_sub hl [8, 9, 10, 11, 3, 2, 0] rfl)
                              ·
                                refine q_ic 1 hx hb dX6_layWay_371 (by decide) ?_
                                refine lv_goto (tgt := 376) hx hb dX6_layWay_372 (by decide) ?_
                                refine lv_istore (lv' := [(6, .int (nI 1)), (10, .int (nI (t1 + 1))), (5, .int (nI (t1))), (4, .int (nI (nx t1 d))), (9, .int (nI 1)), (13, .int (nI (rtN w ro K d f t1))), (12, .int (nI ((7 * t1) + (nx t1 d)))), (11, .int (nI (mv w K ro f t1 d))), (0, .ref (ad 71)), (1, .int (nI (q0))), (2, .int (nI (q - fC w ro K d f t1))), (3, .int (nI (a1 + fC w ro K d f t1))), (7, .long (lN (fM w ro K d f 6)))]) hx hb dX6_layWay_376 hl (by decide) rfl (fun ls hl => ?_)
                                have hnj := NJ_s hw hNJ hdK (show t1 < 6 by omega) hp1
                                have hbs := byN_s (w := w) (r := ro) hs18 hdK (show t1 < 6 by omega) hc hq2
                                have hfj := FJ_s (hbs ▸ hF) hs18
                                have hq3 : q - fC w ro K d f t1 < Cx' w K ro (K - nx t1 d) t1 := by have h8 := fC_s w ro K d f t1; rw [rt_p hp1] at h8; omega
                                have hen : bI (nx t1 d = K) = nI 1 := bI_t (by omega)
                                have hl : lv_has ls 14 [(6, .int (bI (nx t1 d = K))), (10, .int (nI (t1 + 1))), (5, .int (nI (t1))), (4, .int (nI (nx t1 d))), (9, .int (nI 1)), (13, .int (nI (rtN w ro K d f t1))), (12, .int (nI ((7 * t1) + (nx t1 d)))), (11, .int (nI (mv w K ro f t1 d))), (0, .ref (ad 71)), (1, .int (nI (q0))), (2, .int (nI (q - fC w ro K d f t1))), (3, .int (nI (a1 + fC w ro K d f t1))), (7, .long (lN (fM w ro K d f 6)))] := by rw [hen]; exact hl
                                have hl : lv_has ls 14 [(6, .int (bI (nx t1 d = K))), (10, .int (nI (t1 + 1))), (5, .int (fr6 t1)), (4, .int (nI (nx t1 d))), (9, .int (nI 1)), (13, .int (nI (rtN w ro K d f t1))), (12, .int (nI ((7 * t1) + (nx t1 d)))), (11, .int (nI (mv w K ro f t1 d))), (0, .ref (ad 71)), (1, .int (nI (q0))), (2, .int (nI (q - fC w ro K d f t1))), (3, .int (nI (a1 + fC w ro K d f t1))), (7, .long (lN (fM w ro K d f 6)))] := by rw [show fr6 t1 = nI t1 from if_neg (by omega)]; exact hl
                                refine lv_goto (tgt := 38) hx hb dX6_layWay_378 (by decide) ?_
                                exact ih_38 (s1 + 1) (nx t1 d) t1 (q - fC w ro K d f t1) (a1 + fC w ro K d f t1) (up2 (up2 I1 81 s1 (nI t1)) 71 12 (nI (s1 + 1))) (up2 L1 71 13 ((L1 71 13) * (lN (mv w K ro f t1 d)))) (by omega) hfj hnj hq3 _ _ hW _ (lv_sub hl [8, 9, 10, 11, 3, 2, 0] rfl)
                          ·
                            refine lv_iload hx hb dX6_layWay_160 (lv_at hl 3 rfl) ?_
                            refine q_ine (tgt := 353) hx hb dX6_layWay_162 (by decide) (by first | omega | exact Nat.lt_of_le_of_lt (hw3 _) (by decide)) (fun c_162 => ?_) (fun c_162 => absurd c_162 (by decide))
                            refine lv_iload hx hb dX6_layWay_353 (lv_at hl 1 rfl) ?_
                            refine q_ic 4 hx hb dX6_layWay_355 (by decide) ?_
                            refine q_cge (tgt := 375) hx hb dX6_layWay_356 (by decide) (by first | omega | exact Nat.lt_of_le_of_lt (hw3 _) (by decide)) (by first | omega | exact Nat.lt_of_le_of_lt (hw3 _) (by decide)) (fun c_356 => ?_) (fun c_356 => ?_)
                            ·
                              refine q_ic 0 hx hb dX6_layWay_375 (by decide) ?_
                              refine lv_istore (lv' := [(6, .int (nI 0)), (10, .int (nI (t1 + 1))), (5, .int (nI (t1))), (4, .int (nI (nx t1 d))), (9, .int (nI 1)), (13, .int (nI (rtN w ro K d f t1))), (12, .int (nI ((7 * t1) + (nx t1 d)))), (11, .int (nI (mv w K ro f t1 d))), (0, .ref (ad 71)), (1, .int (nI (q0))), (2, .int (nI (q - fC w ro K d f t1))), (3, .int (nI (a1 + fC w ro K d f t1))), (7, .long (lN (fM w ro K d f 6)))]) hx hb dX6_layWay_376 hl (by decide) rfl (fun ls hl => ?_)
                              have hnj := NJ_s hw hNJ hdK (show t1 < 6 by omega) hp1
                              have hbs := byN_s (w := w) (r := ro) hs18 hdK (show t1 < 6 by omega) hc hq2
                              have hfj := FJ_s (hbs ▸ hF) hs18
                              have hq3 : q - fC w ro K d f t1 < Cx' w K ro (K - nx t1 d) t1 := by have h8 := fC_s w ro K d f t1; rw [rt_p hp1] at h8; omega
                              have hen : bI (nx t1 d = K) = nI 0 := bI_f (by unfold nx; rw [if_neg (by omega)]; omega)
                              have hl : lv_has ls 14 [(6, .int (bI (nx t1 d = K))), (10, .int (nI (t1 + 1))), (5, .int (nI (t1))), (4, .int (nI (nx t1 d))), (9, .int (nI 1)), (13, .int (nI (rtN w ro K d f t1))), (12, .int (nI ((7 * t1) + (nx t1 d)))), (11, .int (nI (mv w K ro f t1 d))), (0, .ref (ad 71)), (1, .int (nI (q0))), (2, .int (nI (q - fC w ro K d f t1))), (3, .int (nI (a1 + fC w ro K d f t1))), (7, .long (lN (fM w ro K d f 6)))] := by rw [hen]; exact hl
                              have hl : lv_has ls 14 [(6, .int (bI (nx t1 d = K))), (10, .int (nI (t1 + 1))), (5, .int (fr6 t1)), (4, .int (nI (nx t1 d))), (9, .int (nI 1)), (13, .int (nI (rtN w ro K d f t1))), (12, .int (nI ((7 * t1) + (nx t1 d)))), (11, .int (nI (mv w K ro f t1 d))), (0, .ref (ad 71)), (1, .int (nI (q0))), (2, .int (nI (q - fC w ro K d f t1))), (3, .int (nI (a1 + fC w ro K d f t1))), (7, .long (lN (fM w ro K d f 6)))] := by rw [show fr6 t1 = nI t1 from if_neg (by omega)]; exact hl
                              refine lv_goto (tgt := 38) hx hb dX6_layWay_378 (by decide) ?_
                              exact ih_38 (s1 + 1) (nx t1 d) t1 (q - fC w ro K d f t1) (a1 + fC w ro K d f t1) (up2 (up2 I1 81 s1 (nI t1)) 71 12 (nI (s1 + 1))) (up2 L1 71 13 ((L1 71 13) * (lN (mv w K ro f t1 d)))) (by omega) hfj hnj hq3 _ _ hW _ (lv_sub hl [8, 9, 10, 11, 3, 2, 0] rfl)
                            ·
                              refine lv_iload hx hb dX6_layWay_359 (lv_at hl 2 rfl) ?_
                              refine lv_aload_n hx hb dX6_layWay_361 rfl (lv_at hl 7 rfl) ?_
                              refine g_6_0 (x := 71) (y := 72) hC hW (by omega) kd_71 gw_483 (hlk 71 0 72 (by omega) rfl) dX6_layWay_362 ?_
                              refine q_bp 58 hx hb dX6_layWay_365 (by decide) ?_
                              refine q_iald (x := 72) (i := 58) hC hW (by omega) kd_72 (by omega) dX6_layWay_367 ?_
                              refine q_top (v2 := .int (nI (K))) (congrArg _ (by rw [up2_ne (by decide), up2_ne (by decide)]; exact hN1.2.1)) ?_
                              refine q_cne (tgt := 375) hx hb dX6_layWay_368 (by decide) (by first | omega | exact Nat.lt_of_le_of_lt (hw3 _) (by decide)) (by first | omega | exact Nat.lt_of_le_of_lt (hw3 _) (by decide)) (fun c_368 => ?_) (fun c_368 => ?_)
                              ·
                                refine q_ic 0 hx hb dX6_layWay_375 (by decide) ?_
                                refine lv_istore (lv' := [(6, .int (nI 0)), (10, .int (nI (t1 + 1))), (5, .int (nI (t1))), (4, .int (nI (nx t1 d))), (9, .int (nI 1)), (13, .int (nI (rtN w ro K d f t1))), (12, .int (nI ((7 * t1) + (nx t1 d)))), (11, .int (nI (mv w K ro f t1 d))), (0, .ref (ad 71)), (1, .int (nI (q0))), (2, .int (nI (q - fC w ro K d f t1))), (3, .int (nI (a1 + fC w ro K d f t1))), (7, .long (lN (fM w ro K d f 6)))]) hx hb dX6_layWay_376 hl (by decide) rfl (fun ls hl => ?_)
                                have hnj := NJ_s hw hNJ hdK (show t1 < 6 by omega) hp1
                                have hbs := byN_s (w := w) (r := ro) hs18 hdK (show t1 < 6 by omega) hc hq2
                                have hfj := FJ_s (hbs ▸ hF) hs18
                                have hq3 : q - fC w ro K d f t1 < Cx' w K ro (K - nx t1 d) t1 := by have h8 := fC_s w ro K d f t1; rw [rt_p hp1] at h8; omega
                                have hen : bI (nx t1 d = K) = nI 0 := bI_f (by omega)
                                have hl : lv_has ls 14 [(6, .int (bI (nx t1 d = K))), (10, .int (nI (t1 + 1))), (5, .int (nI (t1))), (4, .int (nI (nx t1 d))), (9, .int (nI 1)), (13, .int (nI (rtN w ro K d f t1))), (12, .int (nI ((7 * t1) + (nx t1 d)))), (11, .int (nI (mv w K ro f t1 d))), (0, .ref (ad 71)), (1, .int (nI (q0))), (2, .int (nI (q - fC w ro K d f t1))), (3, .int (nI (a1 + fC w ro K d f t1))), (7, .long (lN (fM w ro K d f 6)))] := by rw [hen]; exact hl
                                have hl : lv_has ls 14 [(6, .int (bI (nx t1 d = K))), (10, .int (nI (t1 + 1))), (5, .int (fr6 t1)), (4, .int (nI (nx t1 d))), (9, .int (nI 1)), (13, .int (nI (rtN w ro K d f t1))), (12, .int (nI ((7 * t1) + (nx t1 d)))), (11, .int (nI (mv w K ro f t1 d))), (0, .ref (ad 71)), (1, .int (nI (q0))), (2, .int (nI (q - fC w ro K d f t1))), (3, .int (nI (a1 + fC w ro K d f t1))), (7, .long (lN (fM w ro K d f 6)))] := by rw [show fr6 t1 = nI t1 from if_neg (by omega)]; exact hl
                                refine lv_goto (tgt := 38) hx hb dX6_layWay_378 (by decide) ?_
                                exact ih_38 (s1 + 1) (nx t1 d) t1 (q - fC w ro K d f t1) (a1 + fC w ro K d f t1) (up2 (up2 I1 81 s1 (nI t1)) 71 12 (nI (s1 + 1))) (up2 L1 71 13 ((L1 71 13) * (lN (mv w K ro f t1 d)))) (by omega) hfj hnj hq3 _ _ hW _ (lv_sub hl [8, 9, 10, 11, 3, 2, 0] rfl)
                              ·
                                refine q_ic 1 hx hb dX6_layWay_371 (by decide) ?_
                                refine lv_goto (tgt := 376) hx hb dX6_layWay_372 (by decide) ?_
                                refine lv_istore (lv' := [(6, .int (nI 1)), (10, .int (nI (t1 + 1))), (5, .int (nI (t1))), (4, .int (nI (nx t1 d))), (9, .int (nI 1)), (13, .int (nI (rtN w ro K d f t1))), (12, .int (nI ((7 * t1) + (nx t1 d)))), (11, .int (nI (mv w K ro f t1 d))), (0, .ref (ad 71)), (1, .int (nI (q0))), (2, .int (nI (q - fC w ro K d f t1))), (3, .int (nI (a1 + fC w ro K d f t1))), (7, .long (lN (fM w ro K d f 6)))]) hx hb dX6_layWay_376 hl (by decide) rfl (fun ls hl => ?_)
                                have hnj := NJ_s hw hNJ hdK (show t1 < 6 by omega) hp1
                                have hbs := byN_s (w := w) (r := ro) hs18 hdK (show t1 < 6 by omega) hc hq2
                                have hfj := FJ_s (hbs ▸ hF) hs18
                                have hq3 : q - fC w ro K d f t1 < Cx' w K ro (K - nx t1 d) t1 := by have h8 := fC_s w ro K d f t1; rw [rt_p hp1] at h8; omega
                                have hen : bI (nx t1 d = K) = nI 1 := bI_t (by omega)
                                have hl : lv_has ls 14 [(6, .int (bI (nx t1 d = K))), (10, .int (nI (t1 + 1))), (5, .int (nI (t1))), (4, .int (nI (nx t1 d))), (9, .int (nI 1)), (13, .int (nI (rtN w ro K d f t1))), (12, .int (nI ((7 * t1) + (nx t1 d)))), (11, .int (nI (mv w K ro f t1 d))), (0, .ref (ad 71)), (1, .int (nI (q0))), (2, .int (nI (q - fC w ro K d f t1))), (3, .int (nI (a1 + fC w ro K d f t1))), (7, .long (lN (fM w ro K d f 6)))] := by rw [hen]; exact hl
                                have hl : lv_has ls 14 [(6, .int (bI (nx t1 d = K))), (10, .int (nI (t1 + 1))), (5, .int (fr6 t1)), (4, .int (nI (nx t1 d))), (9, .int (nI 1)), (13, .int (nI (rtN w ro K d f t1))), (12, .int (nI ((7 * t1) + (nx t1 d)))), (11, .int (nI (mv w K ro f t1 d))), (0, .ref (ad 71)), (1, .int (nI (q0))), (2, .int (nI (q - fC w ro K d f t1))), (3, .int (nI (a1 + fC w ro K d f t1))), (7, .long (lN (fM w ro K d f 6)))] := by rw [show fr6 t1 = nI t1 from if_neg (by omega)]; exact hl
                                refine lv_goto (tgt := 38) hx hb dX6_layWay_378 (by decide) ?_
                                exact ih_38 (s1 + 1) (nx t1 d) t1 (q - fC w ro K d f t1) (a1 + fC w ro K d f t1) (up2 (up2 I1 81 s1 (nI t1)) 71 12 (nI (s1 + 1))) (up2 L1 71 13 ((L1 71 13) * (lN (mv w K ro f t1 d)))) (by omega) hfj hnj hq3 _ _ hW _ (lv_sub hl [8, 9, 10, 11, 3, 2, 0] rfl)
                      ·
                        have hp1 : 0 < mv w K ro f t1 d := by omega
                        have hnx : nx t1 d ≤ K := nx_K2 hp1 (by omega)
                        have hmb := mM_lt hw (r := ro) K d f t1 hk6
                        refine lv_aload_n hx hb dX6_layWay_218 rfl (lv_at hl 2 rfl) ?_
                        refine g_6_9 (x := 71) (y := 79) hC hW (by omega) kd_71 gw_492 (hlk 71 9 79 (by omega) rfl) dX6_layWay_219 ?_
                        refine lv_iload hx hb dX6_layWay_222 (lv_at hl 0 rfl) ?_
                        refine q_iald (x := 79) (i := (7 * t1) + (nx t1 d)) hC hW (by omega) kd_79 (by omega) dX6_layWay_224 ?_
                        refine q_top (v2 := .int (nI (Cx' w K ro (K - (nx t1 d)) t1))) (congrArg _ (hB1 (nx t1 d) t1 (by omega) hnx (by omega)).2.2) ?_
                        refine lv_goto (tgt := 229) hx hb dX6_layWay_225 (by decide) ?_
                        have hrb := rtN_b hw (r := ro) (K := K) (d := d) (f := f) (t := t1) hk6
                        refine q_top (v2 := .int (nI (rtN w ro K d f t1))) (by rw [rt_p hp1]) ?_
                        refine lv_istore (lv' := [(13, .int (nI (rtN w ro K d f t1))), (12, .int (nI ((7 * t1) + (nx t1 d)))), (11, .int (nI (mv w K ro f t1 d))), (0, .ref (ad 71)), (1, .int (nI (q0))), (2, .int (nI (q - fC w ro K d f t1))), (3, .int (nI (a1 + fC w ro K d f t1))), (4, .int (nI (d))), (5, .int (nI (f))), (7, .long (lN (fM w ro K d f 6))), (9, .int (nI 0)), (10, .int (nI (t1)))]) hx hb dX6_layWay_229 hl (by decide) rfl (fun ls hl => ?_)
                        refine lv_iload_n hx hb dX6_layWay_231 rfl (lv_at hl 4 rfl) ?_
                        refine lv_if_ge (tgt := 270) hx hb dX6_layWay_232 (by decide) (fun c_232 => ?_) (fun c_232 => absurd (Int32.not_lt.mp (nI_pos (by omega))) c_232)
                        refine lv_iload_n hx hb dX6_layWay_270 rfl (lv_at hl 5 rfl) ?_
                        refine lv_iload hx hb dX6_layWay_271 (lv_at hl 0 rfl) ?_
                        refine q_cge (tgt := 280) hx hb dX6_layWay_273 (by decide) (by first | omega | exact Nat.lt_of_le_of_lt (hw3 _) (by decide)) (by first | omega | exact Nat.lt_of_le_of_lt (hw3 _) (by decide)) (fun c_273 => ?_) (fun c_273 => ?_)
                        ·
                          refine q_ic 0 hx hb dX6_layWay_280 (by decide) ?_
                          refine lv_istore (lv' := [(9, .int (nI 0)), (13, .int (nI (rtN w ro K d f t1))), (12, .int (nI ((7 * t1) + (nx t1 d)))), (11, .int (nI (mv w K ro f t1 d))), (0, .ref (ad 71)), (1, .int (nI (q0))), (2, .int (nI (q - fC w ro K d f t1))), (3, .int (nI (a1 + fC w ro K d f t1))), (4, .int (nI (d))), (5, .int (nI (f))), (7, .long (lN (fM w ro K d f 6))), (10, .int (nI (t1)))]) hx hb dX6_layWay_281 hl (by decide) rfl (fun ls hl => ?_)
                          refine lv_iload hx hb dX6_layWay_283 (lv_at hl 0 rfl) ?_
                          refine q_ieq (tgt := 337) hx hb dX6_layWay_285 (by decide) (by first | omega | exact Nat.lt_of_le_of_lt (hw3 _) (by decide)) (fun c_285 => ?_) (fun c_285 => absurd c_285 (by decide))
                          refine lv_iload_n hx hb dX6_layWay_337 rfl (lv_at hl 6 rfl) ?_
                          refine lv_iload hx hb dX6_layWay_338 (lv_at hl 1 rfl) ?_
                          refine q_isub hx hb dX6_layWay_340 (by omega) ?_
                          refine q_top (v2 := .int (nI (q - fC w ro K d f (t1 + 1)))) (by rw [fC_s, Nat.sub_add_eq]) ?_
                          refine lv_istore_n (lv' := [(2, .int (nI (q - fC w ro K d f (t1 + 1)))), (9, .int (nI 0)), (13, .int (nI (rtN w ro K d f t1))), (12, .int (nI ((7 * t1) + (nx t1 d)))), (11, .int (nI (mv w K ro f t1 d))), (0, .ref (ad 71)), (1, .int (nI (q0))), (3, .int (nI (a1 + fC w ro K d f t1))), (4, .int (nI (d))), (5, .int (nI (f))), (7, .long (lN (fM w ro K d f 6))), (10, .int (nI (t1)))]) hx hb dX6_layWay_341 rfl hl (by decide) rfl (fun ls hl => ?_)
                          refine lv_iload_n hx hb dX6_layWay_342 rfl (lv_at hl 7 rfl) ?_
                          refine lv_iload hx hb dX6_layWay_343 (lv_at hl 2 rfl) ?_
                          refine q_iadd hx hb dX6_layWay_345 ?_
                          refine q_top (v2 := .int (nI (a1 + fC w ro K d f (t1 + 1)))) (by rw [fC_s, Nat.add_assoc]) ?_
                          refine lv_istore_n (lv' := [(3, .int (nI (a1 + fC w ro K d f (t1 + 1)))), (2, .int (nI (q - fC w ro K d f (t1 + 1)))), (9, .int (nI 0)), (13, .int (nI (rtN w ro K d f t1))), (12, .int (nI ((7 * t1) + (nx t1 d)))), (11, .int (nI (mv w K ro f t1 d))), (0, .ref (ad 71)), (1, .int (nI (q0))), (4, .int (nI (d))), (5, .int (nI (f))), (7, .long (lN (fM w ro K d f 6))), (10, .int (nI (t1)))]) hx hb dX6_layWay_346 rfl hl (by decide) rfl (fun ls hl => ?_)
                          refine q_iinc (z2 := t1 + 1) (lv' := [(10, .int (nI (t1 + 1))), (3, .int (nI (a1 + fC w ro K d f (t1 + 1)))), (2, .int (nI (q - fC w ro K d f (t1 + 1)))), (9, .int (nI 0)), (13, .int (nI (rtN w ro K d f t1))), (12, .int (nI ((7 * t1) + (nx t1 d)))), (11, .int (nI (mv w K ro f t1 d))), (0, .ref (ad 71)), (1, .int (nI (q0))), (4, .int (nI (d))), (5, .int (nI (f))), (7, .long (lN (fM w ro K d f 6)))]) hx hb dX6_layWay_347 hl (k := 11) rfl (inc_up _ 1 (by decide)) (by decide) rfl (fun ls hl => ?_)
                          refine lv_goto (tgt := 153) hx hb dX6_layWay_350 (by decide) ?_
                          exact ih_153 (t1 + 1) (by omega) (by omega) (by rw [fC_s]; omega) _ _ hW _ (lv_sub hl [7, 8, 2, 1, 9, 10, 11, 3, 0] rfl)
                        ·
                          refine q_ic 1 hx hb dX6_layWay_276 (by decide) ?_
                          refine lv_goto (tgt := 281) hx hb dX6_layWay_277 (by decide) ?_
                          have hq2 : q < fC w ro K d f (t1 + 1) := by rw [fC_s]; omega
                          refine lv_istore (lv' := [(9, .int (nI 1)), (13, .int (nI (rtN w ro K d f t1))), (12, .int (nI ((7 * t1) + (nx t1 d)))), (11, .int (nI (mv w K ro f t1 d))), (0, .ref (ad 71)), (1, .int (nI (q0))), (2, .int (nI (q - fC w ro K d f t1))), (3, .int (nI (a1 + fC w ro K d f t1))), (4, .int (nI (d))), (5, .int (nI (f))), (7, .long (lN (fM w ro K d f 6))), (10, .int (nI (t1)))]) hx hb dX6_layWay_281 hl (by decide) rfl (fun ls hl => ?_)
                          refine lv_iload hx hb dX6_layWay_283 (lv_at hl 0 rfl) ?_
                          refine q_ieq (tgt := 337) hx hb dX6_layWay_285 (by decide) (by first | omega | exact Nat.lt_of_le_of_lt (hw3 _) (by decide)) (fun c_285 => absurd c_285 (by decide)) (fun c_285 => ?_)
                          refine lv_aload_n hx hb dX6_layWay_288 rfl (lv_at hl 4 rfl) ?_
                          refine g_6_11 (x := 71) (y := 81) hC hW (by omega) kd_71 gw_494 (hlk 71 11 81 (by omega) rfl) dX6_layWay_289 ?_
                          refine lv_aload_n hx hb dX6_layWay_292 rfl (lv_at hl 4 rfl) ?_
                          refine g_6_12 (x := 71) hC hW (by omega) kd_71 gw_495 dX6_layWay_293 ?_
                          refine q_top (v2 := .int (nI (s1))) (congrArg _ hF.2.1) ?_
                          refine lv_iload hx hb dX6_layWay_296 (lv_at hl 11 rfl) ?_
                          refine q_iast (x := 81) (i := s1) (v := nI t1) hC hW (by omega) kd_81 (by omega) dX6_layWay_298 (fun H locs hW => ?_)
                          refine lv_aload_n hx hb dX6_layWay_299 rfl (lv_at hl 4 rfl) ?_
                          refine lv_dup hx hb dX6_layWay_300 rfl ?_
                          refine g_6_12 (x := 71) hC hW (by omega) kd_71 gw_495 dX6_layWay_301 ?_
                          refine q_top (v2 := .int (nI (s1))) (congrArg _ (by rw [up2_ne (by decide)]; exact hF.2.1)) ?_
                          refine q_ic 1 hx hb dX6_layWay_304 (by decide) ?_
                          refine q_iadd hx hb dX6_layWay_305 ?_
                          refine p_6_12 (x := 71) (v := nI (s1 + 1)) hC hW (by omega) kd_71 gw_495 dX6_layWay_306 (fun H locs hW => ?_)
                          refine lv_aload_n hx hb dX6_layWay_309 rfl (lv_at hl 4 rfl) ?_
                          refine lv_dup hx hb dX6_layWay_310 rfl ?_
                          refine g_6_13 (x := 71) hC hW (by omega) kd_71 gw_496 dX6_layWay_311 ?_
                          refine lv_iload hx hb dX6_layWay_314 (lv_at hl 3 rfl) ?_
                          refine q_i2l hx hb dX6_layWay_316 (by first | omega | exact Nat.lt_of_le_of_lt (hw3 _) (by decide)) ?_
                          refine lv_lmul hx hb dX6_layWay_317 ?_
                          refine p_6_13 (x := 71) (v := (L1 71 13) * (lN (mv w K ro f t1 d))) hC hW (by omega) kd_71 gw_496 dX6_layWay_318 (fun H locs hW => ?_)
                          refine lv_iload hx hb dX6_layWay_321 (lv_at hl 11 rfl) ?_
                          refine lv_iload hx hb dX6_layWay_323 (lv_at hl 8 rfl) ?_
                          refine q_kI0 (q_rS (As := [.int (nI (t1)), .int (nI (d))]) (rest := []) hC hW mw_X6_toldThen gw_598 (k_toldThen l G n ad H.size (up2 (up2 I1 81 s1 (nI t1)) 71 12 (nI (s1 + 1))) (up2 L1 71 13 ((L1 71 13) * (lN (mv w K ro f t1 d)))) R _ _ (by omega) (by omega)) ⟨rfl, rfl⟩ ⟨Nat.le_of_ble_eq_true rfl, Nat.le_of_ble_eq_true rfl⟩ ⟨(Nat.le_of_ble_eq_true rfl), (Nat.le_of_ble_eq_true rfl)⟩ hl.1 rfl rfl (Nat.le_of_ble_eq_true rfl) dX6_layWay_325) hW (fun r_325 H locs hp hW => ?_)
                          subst hp
                          refine lv_istore (lv' := [(4, .int (nI (nx t1 d))), (9, .int (nI 1)), (13, .int (nI (rtN w ro K d f t1))), (12, .int (nI ((7 * t1) + (nx t1 d)))), (11, .int (nI (mv w K ro f t1 d))), (0, .ref (ad 71)), (1, .int (nI (q0))), (2, .int (nI (q - fC w ro K d f t1))), (3, .int (nI (a1 + fC w ro K d f t1))), (5, .int (nI (f))), (7, .long (lN (fM w ro K d f 6))), (10, .int (nI (t1)))]) hx hb dX6_layWay_328 hl (by decide) rfl (fun ls hl => ?_)
                          refine lv_iload hx hb dX6_layWay_330 (lv_at hl 11 rfl) ?_
                          refine lv_istore (lv' := [(5, .int (nI (t1))), (4, .int (nI (nx t1 d))), (9, .int (nI 1)), (13, .int (nI (rtN w ro K d f t1))), (12, .int (nI ((7 * t1) + (nx t1 d)))), (11, .int (nI (mv w K ro f t1 d))), (0, .ref (ad 71)), (1, .int (nI (q0))), (2, .int (nI (q - fC w ro K d f t1))), (3, .int (nI (a1 + fC w ro K d f t1))), (7, .long (lN (fM w ro K d f 6))), (10, .int (nI (t1)))]) hx hb dX6_layWay_332 hl (by decide) rfl (fun ls hl => ?_)
                          refine lv_goto (tgt := 347) hx hb dX6_layWay_334 (by decide) ?_
                          refine q_iinc (z2 := t1 + 1) (lv' := [(10, .int (nI (t1 + 1))), (5, .int (nI (t1))), (4, .int (nI (nx t1 d))), (9, .int (nI 1)), (13, .int (nI (rtN w ro K d f t1))), (12, .int (nI ((7 * t1) + (nx t1 d)))), (11, .int (nI (mv w K ro f t1 d))), (0, .ref (ad 71)), (1, .int (nI (q0))), (2, .int (nI (q - fC w ro K d f t1))), (3, .int (nI (a1 + fC w ro K d f t1))), (7, .long (lN (fM w ro K d f 6)))]) hx hb dX6_layWay_347 hl (k := 11) rfl (inc_up _ 1 (by decide)) (by decide) rfl (fun ls hl => ?_)
                          refine lv_goto (tgt := 153) hx hb dX6_layWay_350 (by decide) ?_
                          refine lv_iload hx hb dX6_layWay_153 (lv_at hl 0 rfl) ?_
                          refine q_bp 6 hx hb dX6_layWay_155 (by decide) ?_
                          refine q_cge (tgt := 353) hx hb dX6_layWay_157 (by decide) (by first | omega | exact Nat.lt_of_le_of_lt (hw3 _) (by decide)) (by first | omega | exact Nat.lt_of_le_of_lt (hw3 _) (by decide)) (fun c_157 => ?_) (fun c_157 => ?_)
                          ·
                            refine lv_iload hx hb dX6_layWay_353 (lv_at hl 1 rfl) ?_
                            refine q_ic 4 hx hb dX6_layWay_355 (by decide) ?_
                            refine q_cge (tgt := 375) hx hb dX6_layWay_356 (by decide) (by first | omega | exact Nat.lt_of_le_of_lt (hw3 _) (by decide)) (by first | omega | exact Nat.lt_of_le_of_lt (hw3 _) (by decide)) (fun c_356 => ?_) (fun c_356 => ?_)
                            ·
                              refine q_ic 0 hx hb dX6_layWay_375 (by decide) ?_
                              refine lv_istore (lv' := [(6, .int (nI 0)), (10, .int (nI (t1 + 1))), (5, .int (nI (t1))), (4, .int (nI (nx t1 d))), (9, .int (nI 1)), (13, .int (nI (rtN w ro K d f t1))), (12, .int (nI ((7 * t1) + (nx t1 d)))), (11, .int (nI (mv w K ro f t1 d))), (0, .ref (ad 71)), (1, .int (nI (q0))), (2, .int (nI (q - fC w ro K d f t1))), (3, .int (nI (a1 + fC w ro K d f t1))), (7, .long (lN (fM w ro K d f 6)))]) hx hb dX6_layWay_376 hl (by decide) rfl (fun ls hl => ?_)
                              have hnj := NJ_s hw hNJ hdK (show t1 < 6 by omega) hp1
                              have hbs := byN_s (w := w) (r := ro) hs18 hdK (show t1 < 6 by omega) hc hq2
                              have hfj := FJ_s (hbs ▸ hF) hs18
                              have hq3 : q - fC w ro K d f t1 < Cx' w K ro (K - nx t1 d) t1 := by have h8 := fC_s w ro K d f t1; rw [rt_p hp1] at h8; omega
                              have hen : bI (nx t1 d = K) = nI 0 := bI_f (by unfold nx; rw [if_neg (by omega)]; omega)
                              have hl : lv_has ls 14 [(6, .int (bI (nx t1 d = K))), (10, .int (nI (t1 + 1))), (5, .int (nI (t1))), (4, .int (nI (nx t1 d))), (9, .int (nI 1)), (13, .int (nI (rtN w ro K d f t1))), (12, .int (nI ((7 * t1) + (nx t1 d)))), (11, .int (nI (mv w K ro f t1 d))), (0, .ref (ad 71)), (1, .int (nI (q0))), (2, .int (nI (q - fC w ro K d f t1))), (3, .int (nI (a1 + fC w ro K d f t1))), (7, .long (lN (fM w ro K d f 6)))] := by rw [hen]; exact hl
                              have hl : lv_has ls 14 [(6, .int (bI (nx t1 d = K))), (10, .int (nI (t1 + 1))), (5, .int (fr6 t1)), (4, .int (nI (nx t1 d))), (9, .int (nI 1)), (13, .int (nI (rtN w ro K d f t1))), (12, .int (nI ((7 * t1) + (nx t1 d)))), (11, .int (nI (mv w K ro f t1 d))), (0, .ref (ad 71)), (1, .int (nI (q0))), (2, .int (nI (q - fC w ro K d f t1))), (3, .int (nI (a1 + fC w ro K d f t1))), (7, .long (lN (fM w ro K d f 6)))] := by rw [show fr6 t1 = nI t1 from if_neg (by omega)]; exact hl
                              refine lv_goto (tgt := 38) hx hb dX6_layWay_378 (by decide) ?_
                              exact ih_38 (s1 + 1) (nx t1 d) t1 (q - fC w ro K d f t1) (a1 + fC w ro K d f t1) (up2 (up2 I1 81 s1 (nI t1)) 71 12 (nI (s1 + 1))) (up2 L1 71 13 ((L1 71 13) * (lN (mv w K ro f t1 d)))) (by omega) hfj hnj hq3 _ _ hW _ (lv_sub hl [8, 9, 10, 11, 3, 2, 0] rfl)
                            ·
                              refine lv_iload hx hb dX6_layWay_359 (lv_at hl 2 rfl) ?_
                              refine lv_aload_n hx hb dX6_layWay_361 rfl (lv_at hl 7 rfl) ?_
                              refine g_6_0 (x := 71) (y := 72) hC hW (by omega) kd_71 gw_483 (hlk 71 0 72 (by omega) rfl) dX6_layWay_362 ?_
                              refine q_bp 58 hx hb dX6_layWay_365 (by decide) ?_
                              refine q_iald (x := 72) (i := 58) hC hW (by omega) kd_72 (by omega) dX6_layWay_367 ?_
                              refine q_top (v2 := .int (nI (K))) (congrArg _ (by rw [up2_ne (by decide), up2_ne (by decide)]; exact hN1.2.1)) ?_
                              refine q_cne (tgt := 375) hx hb dX6_layWay_368 (by decide) (by first | omega | exact Nat.lt_of_le_of_lt (hw3 _) (by decide)) (by first | omega | exact Nat.lt_of_le_of_lt (hw3 _) (by decide)) (fun c_368 => ?_) (fun c_368 => ?_)
                              ·
                                refine q_ic 0 hx hb dX6_layWay_375 (by decide) ?_
                                refine lv_istore (lv' := [(6, .int (nI 0)), (10, .int (nI (t1 + 1))), (5, .int (nI (t1))), (4, .int (nI (nx t1 d))), (9, .int (nI 1)), (13, .int (nI (rtN w ro K d f t1))), (12, .int (nI ((7 * t1) + (nx t1 d)))), (11, .int (nI (mv w K ro f t1 d))), (0, .ref (ad 71)), (1, .int (nI (q0))), (2, .int (nI (q - fC w ro K d f t1))), (3, .int (nI (a1 + fC w ro K d f t1))), (7, .long (lN (fM w ro K d f 6)))]) hx hb dX6_layWay_376 hl (by decide) rfl (fun ls hl => ?_)
                                have hnj := NJ_s hw hNJ hdK (show t1 < 6 by omega) hp1
                                have hbs := byN_s (w := w) (r := ro) hs18 hdK (show t1 < 6 by omega) hc hq2
                                have hfj := FJ_s (hbs ▸ hF) hs18
                                have hq3 : q - fC w ro K d f t1 < Cx' w K ro (K - nx t1 d) t1 := by have h8 := fC_s w ro K d f t1; rw [rt_p hp1] at h8; omega
                                have hen : bI (nx t1 d = K) = nI 0 := bI_f (by omega)
                                have hl : lv_has ls 14 [(6, .int (bI (nx t1 d = K))), (10, .int (nI (t1 + 1))), (5, .int (nI (t1))), (4, .int (nI (nx t1 d))), (9, .int (nI 1)), (13, .int (nI (rtN w ro K d f t1))), (12, .int (nI ((7 * t1) + (nx t1 d)))), (11, .int (nI (mv w K ro f t1 d))), (0, .ref (ad 71)), (1, .int (nI (q0))), (2, .int (nI (q - fC w ro K d f t1))), (3, .int (nI (a1 + fC w ro K d f t1))), (7, .long (lN (fM w ro K d f 6)))] := by rw [hen]; exact hl
                                have hl : lv_has ls 14 [(6, .int (bI (nx t1 d = K))), (10, .int (nI (t1 + 1))), (5, .int (fr6 t1)), (4, .int (nI (nx t1 d))), (9, .int (nI 1)), (13, .int (nI (rtN w ro K d f t1))), (12, .int (nI ((7 * t1) + (nx t1 d)))), (11, .int (nI (mv w K ro f t1 d))), (0, .ref (ad 71)), (1, .int (nI (q0))), (2, .int (nI (q - fC w ro K d f t1))), (3, .int (nI (a1 + fC w ro K d f t1))), (7, .long (lN (fM w ro K d f 6)))] := by rw [show fr6 t1 = nI t1 from if_neg (by omega)]; exact hl
                                refine lv_goto (tgt := 38) hx hb dX6_layWay_378 (by decide) ?_
                                exact ih_38 (s1 + 1) (nx t1 d) t1 (q - fC w ro K d f t1) (a1 + fC w ro K d f t1) (up2 (up2 I1 81 s1 (nI t1)) 71 12 (nI (s1 + 1))) (up2 L1 71 13 ((L1 71 13) * (lN (mv w K ro f t1 d)))) (by omega) hfj hnj hq3 _ _ hW _ (lv_sub hl [8, 9, 10, 11, 3, 2, 0] rfl)
                              ·
                                refine q_ic 1 hx hb dX6_layWay_371 (by decide) ?_
                                refine lv_goto (tgt := 376) hx hb dX6_layWay_372 (by decide) ?_
                                refine lv_istore (lv' := [(6, .int (nI 1)), (10, .int (nI (t1 + 1))), (5, .int (nI (t1))), (4, .int (nI (nx t1 d))), (9, .int (nI 1)), (13, .int (nI (rtN w ro K d f t1))), (12, .int (nI ((7 * t1) + (nx t1 d)))), (11, .int (nI (mv w K ro f t1 d))), (0, .ref (ad 71)), (1, .int (nI (q0))), (2, .int (nI (q - fC w ro K d f t1))), (3, .int (nI (a1 + fC w ro K d f t1))), (7, .long (lN (fM w ro K d f 6)))]) hx hb dX6_layWay_376 hl (by decide) rfl (fun ls hl => ?_)
                                have hnj := NJ_s hw hNJ hdK (show t1 < 6 by omega) hp1
                                have hbs := byN_s (w := w) (r := ro) hs18 hdK (show t1 < 6 by omega) hc hq2
                                have hfj := FJ_s (hbs ▸ hF) hs18
                                have hq3 : q - fC w ro K d f t1 < Cx' w K ro (K - nx t1 d) t1 := by have h8 := fC_s w ro K d f t1; rw [rt_p hp1] at h8; omega
                                have hen : bI (nx t1 d = K) = nI 1 := bI_t (by omega)
                                have hl : lv_has ls 14 [(6, .int (bI (nx t1 d = K))), (10, .int (nI (t1 + 1))), (5, .int (nI (t1))), (4, .int (nI (nx t1 d))), (9, .int (nI 1)), (13, .int (nI (rtN w ro K d f t1))), (12, .int (nI ((7 * t1) + (nx t1 d)))), (11, .int (nI (mv w K ro f t1 d))), (0, .ref (ad 71)), (1, .int (nI (q0))), (2, .int (nI (q - fC w ro K d f t1))), (3, .int (nI (a1 + fC w ro K d f t1))), (7, .long (lN (fM w ro K d f 6)))] := by rw [hen]; exact hl
                                have hl : lv_has ls 14 [(6, .int (bI (nx t1 d = K))), (10, .int (nI (t1 + 1))), (5, .int (fr6 t1)), (4, .int (nI (nx t1 d))), (9, .int (nI 1)), (13, .int (nI (rtN w ro K d f t1))), (12, .int (nI ((7 * t1) + (nx t1 d)))), (11, .int (nI (mv w K ro f t1 d))), (0, .ref (ad 71)), (1, .int (nI (q0))), (2, .int (nI (q - fC w ro K d f t1))), (3, .int (nI (a1 + fC w ro K d f t1))), (7, .long (lN (fM w ro K d f 6)))] := by rw [show fr6 t1 = nI t1 from if_neg (by omega)]; exact hl
                                refine lv_goto (tgt := 38) hx hb dX6_layWay_378 (by decide) ?_
                                exact ih_38 (s1 + 1) (nx t1 d) t1 (q - fC w ro K d f t1) (a1 + fC w ro K d f t1) (up2 (up2 I1 81 s1 (nI t1)) 71 12 (nI (s1 + 1))) (up2 L1 71 13 ((L1 71 13) * (lN (mv w K ro f t1 d)))) (by omega) hfj hnj hq3 _ _ hW _ (lv_sub hl [8, 9, 10, 11, 3, 2, 0] rfl)
                          ·
                            refine lv_iload hx hb dX6_layWay_160 (lv_at hl 3 rfl) ?_
                            refine q_ine (tgt := 353) hx hb dX6_layWay_162 (by decide) (by first | omega | exact Nat.lt_of_le_of_lt (hw3 _) (by decide)) (fun c_162 => ?_) (fun c_162 => absurd c_162 (by decide))
                            refine lv_iload hx hb dX6_layWay_353 (lv_at hl 1 rfl) ?_
                            refine q_ic 4 hx hb dX6_layWay_355 (by decide) ?_
                            refine q_cge (tgt := 375) hx hb dX6_layWay_356 (by decide) (by first | omega | exact Nat.lt_of_le_of_lt (hw3 _) (by decide)) (by first | omega | exact Nat.lt_of_le_of_lt (hw3 _) (by decide)) (fun c_356 => ?_) (fun c_356 => ?_)
                            ·
                              refine q_ic 0 hx hb dX6_layWay_375 (by decide) ?_
                              refine lv_istore (lv' := [(6, .int (nI 0)), (10, .int (nI (t1 + 1))), (5, .int (nI (t1))), (4, .int (nI (nx t1 d))), (9, .int (nI 1)), (13, .int (nI (rtN w ro K d f t1))), (12, .int (nI ((7 * t1) + (nx t1 d)))), (11, .int (nI (mv w K ro f t1 d))), (0, .ref (ad 71)), (1, .int (nI (q0))), (2, .int (nI (q - fC w ro K d f t1))), (3, .int (nI (a1 + fC w ro K d f t1))), (7, .long (lN (fM w ro K d f 6)))]) hx hb dX6_layWay_376 hl (by decide) rfl (fun ls hl => ?_)
                              have hnj := NJ_s hw hNJ hdK (show t1 < 6 by omega) hp1
                              have hbs := byN_s (w := w) (r := ro) hs18 hdK (show t1 < 6 by omega) hc hq2
                              have hfj := FJ_s (hbs ▸ hF) hs18
                              have hq3 : q - fC w ro K d f t1 < Cx' w K ro (K - nx t1 d) t1 := by have h8 := fC_s w ro K d f t1; rw [rt_p hp1] at h8; omega
                              have hen : bI (nx t1 d = K) = nI 0 := bI_f (by unfold nx; rw [if_neg (by omega)]; omega)
                              have hl : lv_has ls 14 [(6, .int (bI (nx t1 d = K))), (10, .int (nI (t1 + 1))), (5, .int (nI (t1))), (4, .int (nI (nx t1 d))), (9, .int (nI 1)), (13, .int (nI (rtN w ro K d f t1))), (12, .int (nI ((7 * t1) + (nx t1 d)))), (11, .int (nI (mv w K ro f t1 d))), (0, .ref (ad 71)), (1, .int (nI (q0))), (2, .int (nI (q - fC w ro K d f t1))), (3, .int (nI (a1 + fC w ro K d f t1))), (7, .long (lN (fM w ro K d f 6)))] := by rw [hen]; exact hl
                              have hl : lv_has ls 14 [(6, .int (bI (nx t1 d = K))), (10, .int (nI (t1 + 1))), (5, .int (fr6 t1)), (4, .int (nI (nx t1 d))), (9, .int (nI 1)), (13, .int (nI (rtN w ro K d f t1))), (12, .int (nI ((7 * t1) + (nx t1 d)))), (11, .int (nI (mv w K ro f t1 d))), (0, .ref (ad 71)), (1, .int (nI (q0))), (2, .int (nI (q - fC w ro K d f t1))), (3, .int (nI (a1 + fC w ro K d f t1))), (7, .long (lN (fM w ro K d f 6)))] := by rw [show fr6 t1 = nI t1 from if_neg (by omega)]; exact hl
                              refine lv_goto (tgt := 38) hx hb dX6_layWay_378 (by decide) ?_
                              exact ih_38 (s1 + 1) (nx t1 d) t1 (q - fC w ro K d f t1) (a1 + fC w ro K d f t1) (up2 (up2 I1 81 s1 (nI t1)) 71 12 (nI (s1 + 1))) (up2 L1 71 13 ((L1 71 13) * (lN (mv w K ro f t1 d)))) (by omega) hfj hnj hq3 _ _ hW _ (lv_sub hl [8, 9, 10, 11, 3, 2, 0] rfl)
                            ·
                              refine lv_iload hx hb dX6_layWay_359 (lv_at hl 2 rfl) ?_
                              refine lv_aload_n hx hb dX6_layWay_361 rfl (lv_at hl 7 rfl) ?_
                              refine g_6_0 (x := 71) (y := 72) hC hW (by omega) kd_71 gw_483 (hlk 71 0 72 (by omega) rfl) dX6_layWay_362 ?_
                              refine q_bp 58 hx hb dX6_layWay_365 (by decide) ?_
                              refine q_iald (x := 72) (i := 58) hC hW (by omega) kd_72 (by omega) dX6_layWay_367 ?_
                              refine q_top (v2 := .int (nI (K))) (congrArg _ (by rw [up2_ne (by decide), up2_ne (by decide)]; exact hN1.2.1)) ?_
                              refine q_cne (tgt := 375) hx hb dX6_layWay_368 (by decide) (by first | omega | exact Nat.lt_of_le_of_lt (hw3 _) (by decide)) (by first | omega | exact Nat.lt_of_le_of_lt (hw3 _) (by decide)) (fun c_368 => ?_) (fun c_368 => ?_)
                              ·
                                refine q_ic 0 hx hb dX6_layWay_375 (by decide) ?_
                                refine lv_istore (lv' := [(6, .int (nI 0)), (10, .int (nI (t1 + 1))), (5, .int (nI (t1))), (4, .int (nI (nx t1 d))), (9, .int (nI 1)), (13, .int (nI (rtN w ro K d f t1))), (12, .int (nI ((7 * t1) + (nx t1 d)))), (11, .int (nI (mv w K ro f t1 d))), (0, .ref (ad 71)), (1, .int (nI (q0))), (2, .int (nI (q - fC w ro K d f t1))), (3, .int (nI (a1 + fC w ro K d f t1))), (7, .long (lN (fM w ro K d f 6)))]) hx hb dX6_layWay_376 hl (by decide) rfl (fun ls hl => ?_)
                                have hnj := NJ_s hw hNJ hdK (show t1 < 6 by omega) hp1
                                have hbs := byN_s (w := w) (r := ro) hs18 hdK (show t1 < 6 by omega) hc hq2
                                have hfj := FJ_s (hbs ▸ hF) hs18
                                have hq3 : q - fC w ro K d f t1 < Cx' w K ro (K - nx t1 d) t1 := by have h8 := fC_s w ro K d f t1; rw [rt_p hp1] at h8; omega
                                have hen : bI (nx t1 d = K) = nI 0 := bI_f (by omega)
                                have hl : lv_has ls 14 [(6, .int (bI (nx t1 d = K))), (10, .int (nI (t1 + 1))), (5, .int (nI (t1))), (4, .int (nI (nx t1 d))), (9, .int (nI 1)), (13, .int (nI (rtN w ro K d f t1))), (12, .int (nI ((7 * t1) + (nx t1 d)))), (11, .int (nI (mv w K ro f t1 d))), (0, .ref (ad 71)), (1, .int (nI (q0))), (2, .int (nI (q - fC w ro K d f t1))), (3, .int (nI (a1 + fC w ro K d f t1))), (7, .long (lN (fM w ro K d f 6)))] := by rw [hen]; exact hl
                                have hl : lv_has ls 14 [(6, .int (bI (nx t1 d = K))), (10, .int (nI (t1 + 1))), (5, .int (fr6 t1)), (4, .int (nI (nx t1 d))), (9, .int (nI 1)), (13, .int (nI (rtN w ro K d f t1))), (12, .int (nI ((7 * t1) + (nx t1 d)))), (11, .int (nI (mv w K ro f t1 d))), (0, .ref (ad 71)), (1, .int (nI (q0))), (2, .int (nI (q - fC w ro K d f t1))), (3, .int (nI (a1 + fC w ro K d f t1))), (7, .long (lN (fM w ro K d f 6)))] := by rw [show fr6 t1 = nI t1 from if_neg (by omega)]; exact hl
                                refine lv_goto (tgt := 38) hx hb dX6_layWay_378 (by decide) ?_
                                exact ih_38 (s1 + 1) (nx t1 d) t1 (q - fC w ro K d f t1) (a1 + fC w ro K d f t1) (up2 (up2 I1 81 s1 (nI t1)) 71 12 (nI (s1 + 1))) (up2 L1 71 13 ((L1 71 13) * (lN (mv w K ro f t1 d)))) (by omega) hfj hnj hq3 _ _ hW _ (lv_sub hl [8, 9, 10, 11, 3, 2, 0] rfl)
                              ·
                                refine q_ic 1 hx hb dX6_layWay_371 (by decide) ?_
                                refine lv_goto (tgt := 376) hx hb dX6_layWay_372 (by decide) ?_
                                refine lv_istore (lv' := [(6, .int (nI 1)), (10, .int (nI (t1 + 1))), (5, .int (nI (t1))), (4, .int (nI (nx t1 d))), (9, .int (nI 1)), (13, .int (nI (rtN w ro K d f t1))), (12, .int (nI ((7 * t1) + (nx t1 d)))), (11, .int (nI (mv w K ro f t1 d))), (0, .ref (ad 71)), (1, .int (nI (q0))), (2, .int (nI (q - fC w ro K d f t1))), (3, .int (nI (a1 + fC w ro K d f t1))), (7, .long (lN (fM w ro K d f 6)))]) hx hb dX6_layWay_376 hl (by decide) rfl (fun ls hl => ?_)
                                have hnj := NJ_s hw hNJ hdK (show t1 < 6 by omega) hp1
                                have hbs := byN_s (w := w) (r := ro) hs18 hdK (show t1 < 6 by omega) hc hq2
                                have hfj := FJ_s (hbs ▸ hF) hs18
                                have hq3 : q - fC w ro K d f t1 < Cx' w K ro (K - nx t1 d) t1 := by have h8 := fC_s w ro K d f t1; rw [rt_p hp1] at h8; omega
                                have hen : bI (nx t1 d = K) = nI 1 := bI_t (by omega)
                                have hl : lv_has ls 14 [(6, .int (bI (nx t1 d = K))), (10, .int (nI (t1 + 1))), (5, .int (nI (t1))), (4, .int (nI (nx t1 d))), (9, .int (nI 1)), (13, .int (nI (rtN w ro K d f t1))), (12, .int (nI ((7 * t1) + (nx t1 d)))), (11, .int (nI (mv w K ro f t1 d))), (0, .ref (ad 71)), (1, .int (nI (q0))), (2, .int (nI (q - fC w ro K d f t1))), (3, .int (nI (a1 + fC w ro K d f t1))), (7, .long (lN (fM w ro K d f 6)))] := by rw [hen]; exact hl
                                have hl : lv_has ls 14 [(6, .int (bI (nx t1 d = K))), (10, .int (nI (t1 + 1))), (5, .int (fr6 t1)), (4, .int (nI (nx t1 d))), (9, .int (nI 1)), (13, .int (nI (rtN w ro K d f t1))), (12, .int (nI ((7 * t1) + (nx t1 d)))), (11, .int (nI (mv w K ro f t1 d))), (0, .ref (ad 71)), (1, .int (nI (q0))), (2, .int (nI (q - fC w ro K d f t1))), (3, .int (nI (a1 + fC w ro K d f t1))), (7, .long (lN (fM w ro K d f 6)))] := by rw [show fr6 t1 = nI t1 from if_neg (by omega)]; exact hl
                                refine lv_goto (tgt := 38) hx hb dX6_layWay_378 (by decide) ?_
                                exact ih_38 (s1 + 1) (nx t1 d) t1 (q - fC w ro K d f t1) (a1 + fC w ro K d f t1) (up2 (up2 I1 81 s1 (nI t1)) 71 12 (nI (s1 + 1))) (up2 L1 71 13 ((L1 71 13) * (lN (mv w K ro f t1 d)))) (by omega) hfj hnj hq3 _ _ hW _ (lv_sub hl [8, 9, 10, 11, 3, 2, 0] rfl)
                  exact lp_153 (6 + 1) 0 (by omega) (by omega) (Nat.zero_le _) _ _ hW _ (lv_sub hl [2, 3, 4, 5, 6, 7, 8, 1, 0] rfl)
                ·
                  refine lv_aload_n hx hb dX6_layWay_56 rfl (lv_at hl 0 rfl) ?_
                  refine lv_iload hx hb dX6_layWay_57 (lv_at hl 5 rfl) ?_
                  refine lv_if_ge (tgt := 72) hx hb dX6_layWay_59 (by decide) (fun c_59 => ?_) (fun c_59 => absurd (Int32.not_lt.mp (nI_pos (by omega))) c_59)
                  refine lv_aload_n hx hb dX6_layWay_72 rfl (lv_at hl 0 rfl) ?_
                  refine lv_iload hx hb dX6_layWay_73 (lv_at hl 5 rfl) ?_
                  refine lv_iload hx hb dX6_layWay_75 (lv_at hl 7 rfl) ?_
                  refine q_kI0 (q_rV (As := [.int (nI (f)), .int (nI (t1))]) (rest := [.ref (ad 71)]) (x := 71) hC hW mw_X6_step gw_586 (k_step l G n ad H.size I1 L1 R _ _ (by omega) (by omega) w K ro hn hlk hN1) (by omega) (ct_o6 kd_71) rfl ⟨rfl, rfl⟩ ⟨Nat.le_of_ble_eq_true rfl, Nat.le_of_ble_eq_true rfl⟩ ⟨(Nat.le_of_ble_eq_true rfl), (Nat.le_of_ble_eq_true rfl)⟩ hl.1 rfl rfl (Nat.le_of_ble_eq_true rfl) dX6_layWay_77) hW (fun r_77 H locs hp hW => ?_)
                  subst hp
                  refine lv_iload hx hb dX6_layWay_80 (lv_at hl 7 rfl) ?_
                  refine lv_iload hx hb dX6_layWay_82 (lv_at hl 4 rfl) ?_
                  refine q_kI0 (q_rV (As := [.int (nI (w (f * 6 + t1))), .int (nI (t1)), .int (nI (d))]) (rest := []) (x := 71) hC hW mw_X6_going gw_590 (k_going l G n ad H.size I1 L1 R _ _ _ (hw3 _) (by omega) (by omega) w K ro hn hlk hN1) (by omega) (ct_o6 kd_71) rfl ⟨rfl, rfl⟩ ⟨Nat.le_of_ble_eq_true rfl, Nat.le_of_ble_eq_true rfl⟩ ⟨(Nat.le_of_ble_eq_true rfl), (Nat.le_of_ble_eq_true rfl)⟩ hl.1 rfl rfl (Nat.le_of_ble_eq_true rfl) dX6_layWay_84) hW (fun r_84 H locs hp hW => ?_)
                  subst hp
                  refine q_top (v2 := .int (nI (mv w K ro f t1 d))) rfl ?_
                  have hm9 := mv_le hw K ro f t1 d
                  refine q_i2l hx hb dX6_layWay_87 (by first | omega | exact Nat.lt_of_le_of_lt (hw3 _) (by decide)) ?_
                  refine lv_lstore (lv' := [(10, .long (lN (mv w K ro f t1 d))), (0, .ref (ad 71)), (1, .int (nI (q0))), (2, .int (nI (q))), (3, .int (nI (a1))), (4, .int (nI (d))), (5, .int (nI (f))), (7, .long (lN (fM w ro K d f t1))), (9, .int (nI (t1)))]) hx hb dX6_layWay_88 hl (by decide) rfl (fun ls hl => ?_)
                  refine lv_lload hx hb dX6_layWay_90 (lv_at hl 0 rfl) ?_
                  refine q_lc 0 hx hb dX6_layWay_92 (by decide) ?_
                  refine q_lcmp hx hb dX6_layWay_93 ?_
                  refine q_lle (tgt := 121) hx hb dX6_layWay_94 (by decide) (by first | decide | omega | assumption) (by first | decide | omega | assumption) (fun c_94 => ?_) (fun c_94 => ?_)
                  ·
                    have hz1 : mv w K ro f t1 d = 0 := by omega
                    refine q_lc 0 hx hb dX6_layWay_121 (by decide) ?_
                    refine lv_lstore (lv' := [(12, .long (lN 0)), (10, .long (lN (mv w K ro f t1 d))), (0, .ref (ad 71)), (1, .int (nI (q0))), (2, .int (nI (q))), (3, .int (nI (a1))), (4, .int (nI (d))), (5, .int (nI (f))), (7, .long (lN (fM w ro K d f t1))), (9, .int (nI (t1)))]) hx hb dX6_layWay_122 hl (by decide) rfl (fun ls hl => ?_)
                    refine lv_lload hx hb dX6_layWay_124 (lv_at hl 0 rfl) ?_
                    refine lv_lload hx hb dX6_layWay_126 (lv_at hl 8 rfl) ?_
                    refine q_lcmp hx hb dX6_layWay_128 ?_
                    refine q_lle (tgt := 137) hx hb dX6_layWay_129 (by decide) (by decide) (Nat.lt_of_le_of_lt (fM_b hw (r := ro) K d f t1 hk6) (by decide)) (fun c_129 => ?_) (fun c_129 => ?_)
                    ·
                      refine lv_lload hx hb dX6_layWay_137 (lv_at hl 8 rfl) ?_
                      refine q_top (v2 := .long (lN (fM w ro K d f (t1 + 1)))) (congrArg (fun z => Value.long (lN z)) (show fM w ro K d f t1 = fM w ro K d f (t1 + 1) from by have h9 := fM_n (w := w) (r := ro) (K := K) (d := d) (f := f) (i := t1) hz1; omega)) ?_
                      refine lv_lstore (lv' := [(7, .long (lN (fM w ro K d f (t1 + 1)))), (12, .long (lN 0)), (10, .long (lN (mv w K ro f t1 d))), (0, .ref (ad 71)), (1, .int (nI (q0))), (2, .int (nI (q))), (3, .int (nI (a1))), (4, .int (nI (d))), (5, .int (nI (f))), (9, .int (nI (t1)))]) hx hb dX6_layWay_139 hl (by decide) rfl (fun ls hl => ?_)
                      refine q_iinc (z2 := t1 + 1) (lv' := [(9, .int (nI (t1 + 1))), (7, .long (lN (fM w ro K d f (t1 + 1)))), (12, .long (lN 0)), (10, .long (lN (mv w K ro f t1 d))), (0, .ref (ad 71)), (1, .int (nI (q0))), (2, .int (nI (q))), (3, .int (nI (a1))), (4, .int (nI (d))), (5, .int (nI (f)))]) hx hb dX6_layWay_141 hl (k := 9) rfl (inc_up _ 1 (by decide)) (by decide) rfl (fun ls hl => ?_)
                      refine lv_goto (tgt := 49) hx hb dX6_layWay_144 (by decide) ?_
                      exact ih_49 (t1 + 1) (by omega) (by omega) _ _ hW _ (lv_sub hl [4, 5, 6, 7, 8, 9, 1, 0] rfl)
                    ·
                      refine lv_lload hx hb dX6_layWay_132 (lv_at hl 0 rfl) ?_
                      refine lv_goto (tgt := 139) hx hb dX6_layWay_134 (by decide) ?_
                      refine q_top (v2 := .long (lN (fM w ro K d f (t1 + 1)))) (congrArg (fun z => Value.long (lN z)) (show 0 = fM w ro K d f (t1 + 1) from by have h9 := fM_n (w := w) (r := ro) (K := K) (d := d) (f := f) (i := t1) hz1; omega)) ?_
                      refine lv_lstore (lv' := [(7, .long (lN (fM w ro K d f (t1 + 1)))), (12, .long (lN 0)), (10, .long (lN (mv w K ro f t1 d))), (0, .ref (ad 71)), (1, .int (nI (q0))), (2, .int (nI (q))), (3, .int (nI (a1))), (4, .int (nI (d))), (5, .int (nI (f))), (9, .int (nI (t1)))]) hx hb dX6_layWay_139 hl (by decide) rfl (fun ls hl => ?_)
                      refine q_iinc (z2 := t1 + 1) (lv' := [(9, .int (nI (t1 + 1))), (7, .long (lN (fM w ro K d f (t1 + 1)))), (12, .long (lN 0)), (10, .long (lN (mv w K ro f t1 d))), (0, .ref (ad 71)), (1, .int (nI (q0))), (2, .int (nI (q))), (3, .int (nI (a1))), (4, .int (nI (d))), (5, .int (nI (f)))]) hx hb dX6_layWay_141 hl (k := 9) rfl (inc_up _ 1 (by decide)) (by decide) rfl (fun ls hl => ?_)
                      refine lv_goto (tgt := 49) hx hb dX6_layWay_144 (by decide) ?_
                      exact ih_49 (t1 + 1) (by omega) (by omega) _ _ hW _ (lv_sub hl [4, 5, 6, 7, 8, 9, 1, 0] rfl)
                  ·
                    have hp1 : 0 < mv w K ro f t1 d := by omega
                    have hnx : nx t1 d ≤ K := nx_K2 hp1 (by omega)
                    have hmb := mM_lt hw (r := ro) K d f t1 hk6
                    refine lv_lload hx hb dX6_layWay_97 (lv_at hl 0 rfl) ?_
                    refine lv_aload_n hx hb dX6_layWay_99 rfl (lv_at hl 1 rfl) ?_
                    refine g_6_10 (x := 71) (y := 80) hC hW (by omega) kd_71 gw_493 (hlk 71 10 80 (by omega) rfl) dX6_layWay_100 ?_
                    refine q_bp 7 hx hb dX6_layWay_103 (by decide) ?_
                    refine lv_iload hx hb dX6_layWay_105 (lv_at hl 8 rfl) ?_
                    refine q_imul hx hb dX6_layWay_107 ?_
                    refine lv_iload hx hb dX6_layWay_108 (lv_at hl 8 rfl) ?_
                    refine lv_iload hx hb dX6_layWay_110 (lv_at hl 5 rfl) ?_
                    refine q_kI0 (q_rS (As := [.int (nI (t1)), .int (nI (d))]) (rest := [.int (nI (7 * t1)), .ref (ad 80), .long (lN (mv w K ro f t1 d))]) hC hW mw_X6_toldThen gw_598 (k_toldThen l G n ad H.size I1 L1 R _ _ (by omega) (by omega)) ⟨rfl, rfl⟩ ⟨Nat.le_of_ble_eq_true rfl, Nat.le_of_ble_eq_true rfl⟩ ⟨(Nat.le_of_ble_eq_true rfl), (Nat.le_of_ble_eq_true rfl)⟩ hl.1 rfl rfl (Nat.le_of_ble_eq_true rfl) dX6_layWay_112) hW (fun r_112 H locs hp hW => ?_)
                    subst hp
                    refine q_iadd hx hb dX6_layWay_115 ?_
                    refine q_lald (x := 80) (i := (7 * t1) + (nx t1 d)) hC hW (by omega) kd_80 (by omega) dX6_layWay_116 ?_
                    refine q_top (v2 := .long (lN (Mx' w K ro (K - (nx t1 d)) t1))) (congrArg _ (hB1 (nx t1 d) t1 (by omega) hnx (by omega)).2.1) ?_
                    refine q_lmul hx hb dX6_layWay_117 ?_
                    refine lv_goto (tgt := 122) hx hb dX6_layWay_118 (by decide) ?_
                    refine lv_lstore (lv' := [(12, .long (lN ((mv w K ro f t1 d) * (Mx' w K ro (K - (nx t1 d)) t1)))), (10, .long (lN (mv w K ro f t1 d))), (0, .ref (ad 71)), (1, .int (nI (q0))), (2, .int (nI (q))), (3, .int (nI (a1))), (4, .int (nI (d))), (5, .int (nI (f))), (7, .long (lN (fM w ro K d f t1))), (9, .int (nI (t1)))]) hx hb dX6_layWay_122 hl (by decide) rfl (fun ls hl => ?_)
                    refine lv_lload hx hb dX6_layWay_124 (lv_at hl 0 rfl) ?_
                    refine lv_lload hx hb dX6_layWay_126 (lv_at hl 8 rfl) ?_
                    refine q_lcmp hx hb dX6_layWay_128 ?_
                    refine q_lle (tgt := 137) hx hb dX6_layWay_129 (by decide) hmb (Nat.lt_of_le_of_lt (fM_b hw (r := ro) K d f t1 hk6) (by decide)) (fun c_129 => ?_) (fun c_129 => ?_)
                    ·
                      refine lv_lload hx hb dX6_layWay_137 (lv_at hl 8 rfl) ?_
                      refine q_top (v2 := .long (lN (fM w ro K d f (t1 + 1)))) (congrArg (fun z => Value.long (lN z)) (show fM w ro K d f t1 = fM w ro K d f (t1 + 1) from by have h9 := fM_p (w := w) (r := ro) (K := K) (d := d) (f := f) (i := t1) hp1; omega)) ?_
                      refine lv_lstore (lv' := [(7, .long (lN (fM w ro K d f (t1 + 1)))), (12, .long (lN ((mv w K ro f t1 d) * (Mx' w K ro (K - (nx t1 d)) t1)))), (10, .long (lN (mv w K ro f t1 d))), (0, .ref (ad 71)), (1, .int (nI (q0))), (2, .int (nI (q))), (3, .int (nI (a1))), (4, .int (nI (d))), (5, .int (nI (f))), (9, .int (nI (t1)))]) hx hb dX6_layWay_139 hl (by decide) rfl (fun ls hl => ?_)
                      refine q_iinc (z2 := t1 + 1) (lv' := [(9, .int (nI (t1 + 1))), (7, .long (lN (fM w ro K d f (t1 + 1)))), (12, .long (lN ((mv w K ro f t1 d) * (Mx' w K ro (K - (nx t1 d)) t1)))), (10, .long (lN (mv w K ro f t1 d))), (0, .ref (ad 71)), (1, .int (nI (q0))), (2, .int (nI (q))), (3, .int (nI (a1))), (4, .int (nI (d))), (5, .int (nI (f)))]) hx hb dX6_layWay_141 hl (k := 9) rfl (inc_up _ 1 (by decide)) (by decide) rfl (fun ls hl => ?_)
                      refine lv_goto (tgt := 49) hx hb dX6_layWay_144 (by decide) ?_
                      exact ih_49 (t1 + 1) (by omega) (by omega) _ _ hW _ (lv_sub hl [4, 5, 6, 7, 8, 9, 1, 0] rfl)
                    ·
                      refine lv_lload hx hb dX6_layWay_132 (lv_at hl 0 rfl) ?_
                      refine lv_goto (tgt := 139) hx hb dX6_layWay_134 (by decide) ?_
                      refine q_top (v2 := .long (lN (fM w ro K d f (t1 + 1)))) (congrArg (fun z => Value.long (lN z)) (show (mv w K ro f t1 d) * (Mx' w K ro (K - (nx t1 d)) t1) = fM w ro K d f (t1 + 1) from by have h9 := fM_p (w := w) (r := ro) (K := K) (d := d) (f := f) (i := t1) hp1; omega)) ?_
                      refine lv_lstore (lv' := [(7, .long (lN (fM w ro K d f (t1 + 1)))), (12, .long (lN ((mv w K ro f t1 d) * (Mx' w K ro (K - (nx t1 d)) t1)))), (10, .long (lN (mv w K ro f t1 d))), (0, .ref (ad 71)), (1, .int (nI (q0))), (2, .int (nI (q))), (3, .int (nI (a1))), (4, .int (nI (d))), (5, .int (nI (f))), (9, .int (nI (t1)))]) hx hb dX6_layWay_139 hl (by decide) rfl (fun ls hl => ?_)
                      refine q_iinc (z2 := t1 + 1) (lv' := [(9, .int (nI (t1 + 1))), (7, .long (lN (fM w ro K d f (t1 + 1)))), (12, .long (lN ((mv w K ro f t1 d) * (Mx' w K ro (K - (nx t1 d)) t1)))), (10, .long (lN (mv w K ro f t1 d))), (0, .ref (ad 71)), (1, .int (nI (q0))), (2, .int (nI (q))), (3, .int (nI (a1))), (4, .int (nI (d))), (5, .int (nI (f)))]) hx hb dX6_layWay_141 hl (k := 9) rfl (inc_up _ 1 (by decide)) (by decide) rfl (fun ls hl => ?_)
                      refine lv_goto (tgt := 49) hx hb dX6_layWay_144 (by decide) ?_
                      exact ih_49 (t1 + 1) (by omega) (by omega) _ _ hW _ (lv_sub hl [4, 5, 6, 7, 8, 9, 1, 0] rfl)
            exact lp_49 (6 + 1) 0 (by omega) (by omega) _ _ hW _ (lv_sub hl [2, 3, 4, 5, 6, 7, 1, 0] rfl)
        ·
          have e6 : f = 6 := by have h9 := hNJ.2.2; omega
          subst e6
          have hl : lv_has ls 14 [(0, .ref (ad 71)), (1, .int (nI (q0))), (2, .int (nI (q))), (3, .int (nI (a1))), (4, .int (nI (d))), (5, .int (-6)), (6, .int (bI (d = K)))] := hl
          refine lv_iload hx hb dX6_layWay_38 (lv_at hl 6 rfl) ?_
          refine lv_if_ne (tgt := 381) hx hb dX6_layWay_40 (by decide) (fun c_40 => ?_) (fun c_40 => ?_)
          ·
            have hdK : d = K := bI_1 (p := d = K) c_40
            refine lv_iload_n hx hb dX6_layWay_381 rfl (lv_at hl 3 rfl) ?_
            exact q_iret1 hC hW hr hlk0 ⟨FJ_e hF (byN_e (by omega)) (by have h9 := hNJ.1; omega), hF.2.2.1, hF.2.2.2.1, hF.2.2.2.2⟩ dX6_layWay_382
          ·
            have hdn : ¬ d = K := bI_0 (p := d = K) c_40
            have hdK : d < K := by have h9 := hNJ.2.1; omega
            have hs18 : s1 < 18 := NJ_lt hNJ hk6 hdK
            have hMf : fM w ro K d 6 6 = Mx' w K ro (K - d) 6 := (Mx_f hw K d 6 hdK).symm
            have hCf : Cx' w K ro (K - d) 6 = fC w ro K d 6 6 := Cx_f hw K d 6 hdK
            have hCb := Cx_b hw (r := ro) K (K - d) 6 (by omega)
            refine q_lc 0 hx hb dX6_layWay_43 (by decide) ?_
            refine lv_lstore (lv' := [(7, .long (lN 0)), (0, .ref (ad 71)), (1, .int (nI (q0))), (2, .int (nI (q))), (3, .int (nI (a1))), (4, .int (nI (d))), (5, .int (-6)), (6, .int (bI (d = K)))]) hx hb dX6_layWay_44 hl (by decide) rfl (fun ls hl => ?_)
            refine q_ic 0 hx hb dX6_layWay_46 (by decide) ?_
            refine lv_istore (lv' := [(9, .int (nI 0)), (7, .long (lN 0)), (0, .ref (ad 71)), (1, .int (nI (q0))), (2, .int (nI (q))), (3, .int (nI (a1))), (4, .int (nI (d))), (5, .int (-6)), (6, .int (bI (d = K)))]) hx hb dX6_layWay_47 hl (by decide) rfl (fun ls hl => ?_)
            have lp_49 : ∀ (fu_49 : Nat) (t1 : Nat), 6 - t1 < fu_49 → (t1 ≤ 6) → ∀ (H : Heap) (locs : List Loc), Wd G n ad I1 L1 R (qA n ad s.heap.size) s.heap H locs s → ∀ ls : Array Slot, lv_has ls 14 [(0, .ref (ad 71)), (1, .int (nI (q0))), (2, .int (nI (q))), (3, .int (nI (a1))), (4, .int (nI (d))), (5, .int (-6)), (7, .long (lN (fM w ro K d 6 t1))), (9, .int (nI (t1)))] → W p_ l e_ ({ frames := 2, cells := 0, slots := 0, locals := 72 } : Room) s m_ ([.ref (ad 71), .int (nI (q0))] : List Value).toArray below meth c_ H locs 0 0 (MQ below (qI1 G (qA n ad s.heap.size) n ad R (fun z I1 L1 => FoB (wayN w ro K q0) (prN w ro K 0 6 (wayN w ro K q0)) I1 L1 ∧ (∀ a, a ≠ 71 → a ≠ 81 → I1 a = I a) ∧ (∀ j, j ≠ 12 → I1 71 j = I 71 j) ∧ (∀ a, a ≠ 71 → L1 a = L a))) ([.ref (ad 71), .int (nI (q0))] : List Value).toArray s 0 0 (qA n ad s.heap.size)) (F0 m_ 49 ls []) := by
              intro fu_49
              induction fu_49 with
              | zero =>
                intro t1 hm; exact absurd hm (Nat.not_lt_zero _)
              | succ fu_49 ih_49 =>
                intro t1 hm_49 ht6 H locs hW ls hl
                refine lv_iload hx hb dX6_layWay_49 (lv_at hl 7 rfl) ?_
                refine q_bp 6 hx hb dX6_layWay_51 (by decide) ?_
                refine q_cge (tgt := 147) hx hb dX6_layWay_53 (by decide) (by first | omega | exact Nat.lt_of_le_of_lt (hw3 _) (by decide)) (by first | omega | exact Nat.lt_of_le_of_lt (hw3 _) (by decide)) (fun c_53 => ?_) (fun c_53 => ?_)
                ·
                  have e6 : t1 = 6 := by omega
                  subst e6
                  refine q_ic 0 hx hb dX6_layWay_147 (by decide) ?_
                  refine lv_istore (lv' := [(9, .int (nI 0)), (0, .ref (ad 71)), (1, .int (nI (q0))), (2, .int (nI (q))), (3, .int (nI (a1))), (4, .int (nI (d))), (5, .int (-6)), (7, .long (lN (fM w ro K d 6 6)))]) hx hb dX6_layWay_148 hl (by decide) rfl (fun ls hl => ?_)
                  refine q_ic 0 hx hb dX6_layWay_150 (by decide) ?_
                  refine lv_istore (lv' := [(10, .int (nI 0)), (9, .int (nI 0)), (0, .ref (ad 71)), (1, .int (nI (q0))), (2, .int (nI (q))), (3, .int (nI (a1))), (4, .int (nI (d))), (5, .int (-6)), (7, .long (lN (fM w ro K d 6 6)))]) hx hb dX6_layWay_151 hl (by decide) rfl (fun ls hl => ?_)
                  have lp_153 : ∀ (fu_153 : Nat) (t1 : Nat), 6 - t1 < fu_153 → (t1 ≤ 6) → (fC w ro K d 6 t1 ≤ q) → ∀ (H : Heap) (locs : List Loc), Wd G n ad I1 L1 R (qA n ad s.heap.size) s.heap H locs s → ∀ ls : Array Slot, lv_has ls 14 [(0, .ref (ad 71)), (1, .int (nI (q0))), (2, .int (nI (q - fC w ro K d 6 t1))), (3, .int (nI (a1 + fC w ro K d 6 t1))), (4, .int (nI (d))), (5, .int (-6)), (7, .long (lN (fM w ro K d 6 6))), (9, .int (nI 0)), (10, .int (nI (t1)))] → W p_ l e_ ({ frames := 2, cells := 0, slots := 0, locals := 72 } : Room) s m_ ([.ref (ad 71), .int (nI (q0))] : List Value).toArray below meth c_ H locs 0 0 (MQ below (qI1 G (qA n ad s.heap.size) n ad R (fun z I1 L1 => FoB (wayN w ro K q0) (prN w ro K 0 6 (wayN w ro K q0)) I1 L1 ∧ (∀ a, a ≠ 71 → a ≠ 81 → I1 a = I a) ∧ (∀ j, j ≠ 12 → I1 71 j = I 71 j) ∧ (∀ a, a ≠ 71 → L1 a = L a))) ([.ref (ad 71), .int (nI (q0))] : List Value).toArray s 0 0 (qA n ad s.heap.size)) (F0 m_ 153 ls []) := by
                    intro fu_153
                    induction fu_153 with
                    | zero =>
                      intro t1 hm; exact absurd hm (Nat.not_lt_zero _)
                    | succ fu_153 ih_153 =>
                      intro t1 hm_153 ht6 hc H locs hW ls hl
                      refine lv_iload hx hb dX6_layWay_153 (lv_at hl 8 rfl) ?_
                      refine q_bp 6 hx hb dX6_layWay_155 (by decide) ?_
                      refine q_cge (tgt := 353) hx hb dX6_layWay_157 (by decide) (by first | omega | exact Nat.lt_of_le_of_lt (hw3 _) (by decide)) (by first | omega | exact Nat.lt_of_le_of_lt (hw3 _) (by decide)) (fun c_157 => absurd c_157 (fun q9 => by have e9 : fC w ro K d 6 t1 = fC w ro K d 6 6 := (by rw [show t1 = 6 by omega]); omega)) (fun c_157 => ?_)
                      refine lv_iload hx hb dX6_layWay_160 (lv_at hl 7 rfl) ?_
                      refine q_ine (tgt := 353) hx hb dX6_layWay_162 (by decide) (by first | omega | exact Nat.lt_of_le_of_lt (hw3 _) (by decide)) (fun c_162 => absurd c_162 (by decide)) (fun c_162 => ?_)
                      refine lv_aload_n hx hb dX6_layWay_165 rfl (lv_at hl 0 rfl) ?_
                      refine lv_iload hx hb dX6_layWay_166 (lv_at hl 5 rfl) ?_
                      refine lv_if_ge (tgt := 181) hx hb dX6_layWay_168 (by decide) (fun c_168 => absurd c_168 (by decide)) (fun c_168 => ?_)
                      refine lv_aload_n hx hb dX6_layWay_171 rfl (lv_at hl 0 rfl) ?_
                      refine g_6_0 (x := 71) (y := 72) hC hW (by omega) kd_71 gw_483 (hlk 71 0 72 (by omega) rfl) dX6_layWay_172 ?_
                      refine lv_iload hx hb dX6_layWay_175 (lv_at hl 8 rfl) ?_
                      refine q_iald (x := 72) (i := t1) hC hW (by omega) kd_72 (by omega) dX6_layWay_177 ?_
                      refine q_top (v2 := .int (nI (w (6 * 6 + t1)))) (congrArg _ ((hN1.1 _ (by omega)).trans (congrArg nI (rwt_b w (by omega))))) ?_
                      refine lv_goto (tgt := 189) hx hb dX6_layWay_178 (by decide) ?_
                      refine lv_iload hx hb dX6_layWay_189 (lv_at hl 8 rfl) ?_
                      refine lv_iload hx hb dX6_layWay_191 (lv_at hl 4 rfl) ?_
                      refine q_kI0 (q_rV (As := [.int (nI (w (6 * 6 + t1))), .int (nI (t1)), .int (nI (d))]) (rest := []) (x := 71) hC hW mw_X6_going gw_590 (k_going l G n ad H.size I1 L1 R _ _ _ (hw3 _) (by omega) (by omega) w K ro hn hlk hN1) (by omega) (ct_o6 kd_71) rfl ⟨rfl, rfl⟩ ⟨Nat.le_of_ble_eq_true rfl, Nat.le_of_ble_eq_true rfl⟩ ⟨(Nat.le_of_ble_eq_true rfl), (Nat.le_of_ble_eq_true rfl)⟩ hl.1 rfl rfl (Nat.le_of_ble_eq_true rfl) dX6_layWay_193) hW (fun r_193 H locs hp hW => ?_)
                      subst hp
                      refine q_top (v2 := .int (nI (mv w K ro 6 t1 d))) rfl ?_
                      have hm9 := mv_le hw K ro 6 t1 d
                      refine lv_istore (lv' := [(11, .int (nI (mv w K ro 6 t1 d))), (0, .ref (ad 71)), (1, .int (nI (q0))), (2, .int (nI (q - fC w ro K d 6 t1))), (3, .int (nI (a1 + fC w ro K d 6 t1))), (4, .int (nI (d))), (5, .int (-6)), (7, .long (lN (fM w ro K d 6 6))), (9, .int (nI 0)), (10, .int (nI (t1)))]) hx hb dX6_layWay_196 hl (by decide) rfl (fun ls hl => ?_)
                      refine q_bp 7 hx hb dX6_layWay_198 (by decide) ?_
                      refine lv_iload hx hb dX6_layWay_200 (lv_at hl 9 rfl) ?_
                      refine q_imul hx hb dX6_layWay_202 ?_
                      refine lv_iload hx hb dX6_layWay_203 (lv_at hl 9 rfl) ?_
                      refine lv_iload hx hb dX6_layWay_205 (lv_at hl 5 rfl) ?_
                      refine q_kI0 (q_rS (As := [.int (nI (t1)), .int (nI (d))]) (rest := [.int (nI (7 * t1))]) hC hW mw_X6_toldThen gw_598 (k_toldThen l G n ad H.size I1 L1 R _ _ (by omega) (by omega)) ⟨rfl, rfl⟩ ⟨Nat.le_of_ble_eq_true rfl, Nat.le_of_ble_eq_true rfl⟩ ⟨(Nat.le_of_ble_eq_true rfl), (Nat.le_of_ble_eq_true rfl)⟩ hl.1 rfl rfl (Nat.le_of_ble_eq_true rfl) dX6_layWay_207) hW (fun r_207 H locs hp hW => ?_)
                      subst hp
                      refine q_iadd hx hb dX6_layWay_210 ?_
                      refine lv_istore (lv' := [(12, .int (nI ((7 * t1) + (nx t1 d)))), (11, .int (nI (mv w K ro 6 t1 d))), (0, .ref (ad 71)), (1, .int (nI (q0))), (2, .int (nI (q - fC w ro K d 6 t1))), (3, .int (nI (a1 + fC w ro K d 6 t1))), (4, .int (nI (d))), (5, .int (-6)), (7, .long (lN (fM w ro K d 6 6))), (9, .int (nI 0)), (10, .int (nI (t1)))]) hx hb dX6_layWay_211 hl (by decide) rfl (fun ls hl => ?_)
                      refine lv_iload hx hb dX6_layWay_213 (lv_at hl 1 rfl) ?_
                      refine q_ile (tgt := 228) hx hb dX6_layWay_215 (by decide) (by first | omega | exact Nat.lt_of_le_of_lt (hw3 _) (by decide)) (fun c_215 => ?_) (fun c_215 => ?_)
                      ·
                        have hz1 : mv w K ro 6 t1 d = 0 := by omega
                        refine q_ic 0 hx hb dX6_layWay_228 (by decide) ?_
                        have hrb := rtN_b hw (r := ro) (K := K) (d := d) (f := 6) (t := t1) hk6
                        refine q_top (v2 := .int (nI (rtN w ro K d 6 t1))) (by rw [rt_n hz1]) ?_
                        refine lv_istore (lv' := [(13, .int (nI (rtN w ro K d 6 t1))), (12, .int (nI ((7 * t1) + (nx t1 d)))), (11, .int (nI (mv w K ro 6 t1 d))), (0, .ref (ad 71)), (1, .int (nI (q0))), (2, .int (nI (q - fC w ro K d 6 t1))), (3, .int (nI (a1 + fC w ro K d 6 t1))), (4, .int (nI (d))), (5, .int (-6)), (7, .long (lN (fM w ro K d 6 6))), (9, .int (nI 0)), (10, .int (nI (t1)))]) hx hb dX6_layWay_229 hl (by decide) rfl (fun ls hl => ?_)
                        refine lv_iload_n hx hb dX6_layWay_231 rfl (lv_at hl 4 rfl) ?_
                        refine lv_if_ge (tgt := 270) hx hb dX6_layWay_232 (by decide) (fun c_232 => ?_) (fun c_232 => absurd (Int32.not_lt.mp (nI_pos (by omega))) c_232)
                        refine lv_iload_n hx hb dX6_layWay_270 rfl (lv_at hl 5 rfl) ?_
                        refine lv_iload hx hb dX6_layWay_271 (lv_at hl 0 rfl) ?_
                        refine q_cge (tgt := 280) hx hb dX6_layWay_273 (by decide) (by first | omega | exact Nat.lt_of_le_of_lt (hw3 _) (by decide)) (by first | omega | exact Nat.lt_of_le_of_lt (hw3 _) (by decide)) (fun c_273 => ?_) (fun c_273 => ?_)
                        ·
                          refine q_ic 0 hx hb dX6_layWay_280 (by decide) ?_
                          refine lv_istore (lv' := [(9, .int (nI 0)), (13, .int (nI (rtN w ro K d 6 t1))), (12, .int (nI ((7 * t1) + (nx t1 d)))), (11, .int (nI (mv w K ro 6 t1 d))), (0, .ref (ad 71)), (1, .int (nI (q0))), (2, .int (nI (q - fC w ro K d 6 t1))), (3, .int (nI (a1 + fC w ro K d 6 t1))), (4, .int (nI (d))), (5, .int (-6)), (7, .long (lN (fM w ro K d 6 6))), (10, .int (nI (t1)))]) hx hb dX6_layWay_281 hl (by decide) rfl (fun ls hl => ?_)
                          refine lv_iload hx hb dX6_layWay_283 (lv_at hl 0 rfl) ?_
                          refine q_ieq (tgt := 337) hx hb dX6_layWay_285 (by decide) (by first | omega | exact Nat.lt_of_le_of_lt (hw3 _) (by decide)) (fun c_285 => ?_) (fun c_285 => absurd c_285 (by decide))
                          refine lv_iload_n hx hb dX6_layWay_337 rfl (lv_at hl 6 rfl) ?_
                          refine lv_iload hx hb dX6_layWay_338 (lv_at hl 1 rfl) ?_
                          refine q_isub hx hb dX6_layWay_340 (by omega) ?_
                          refine q_top (v2 := .int (nI (q - fC w ro K d 6 (t1 + 1)))) (by rw [fC_s, Nat.sub_add_eq]) ?_
                          refine lv_istore_n (lv' := [(2, .int (nI (q - fC w ro K d 6 (t1 + 1)))), (9, .int (nI 0)), (13, .int (nI (rtN w ro K d 6 t1))), (12, .int (nI ((7 * t1) + (nx t1 d)))), (11, .int (nI (mv w K ro 6 t1 d))), (0, .ref (ad 71)), (1, .int (nI (q0))), (3, .int (nI (a1 + fC w ro K d 6 t1))), (4, .int (nI (d))), (5, .int (-6)), (7, .long (lN (fM w ro K d 6 6))), (10, .int (nI (t1)))]) hx hb dX6_layWay_341 rfl hl (by decide) rfl (fun ls hl => ?_)
                          refine lv_iload_n hx hb dX6_layWay_342 rfl (lv_at hl 7 rfl) ?_
                          refine lv_iload hx hb dX6_layWay_343 (lv_at hl 2 rfl) ?_
                          refine q_iadd hx hb dX6_layWay_345 ?_
                          refine q_top (v2 := .int (nI (a1 + fC w ro K d 6 (t1 + 1)))) (by rw [fC_s, Nat.add_assoc]) ?_
                          refine lv_istore_n (lv' := [(3, .int (nI (a1 + fC w ro K d 6 (t1 + 1)))), (2, .int (nI (q - fC w ro K d 6 (t1 + 1)))), (9, .int (nI 0)), (13, .int (nI (rtN w ro K d 6 t1))), (12, .int (nI ((7 * t1) + (nx t1 d)))), (11, .int (nI (mv w K ro 6 t1 d))), (0, .ref (ad 71)), (1, .int (nI (q0))), (4, .int (nI (d))), (5, .int (-6)), (7, .long (lN (fM w ro K d 6 6))), (10, .int (nI (t1)))]) hx hb dX6_layWay_346 rfl hl (by decide) rfl (fun ls hl => ?_)
                          refine q_iinc (z2 := t1 + 1) (lv' := [(10, .int (nI (t1 + 1))), (3, .int (nI (a1 + fC w ro K d 6 (t1 + 1)))), (2, .int (nI (q - fC w ro K d 6 (t1 + 1)))), (9, .int (nI 0)), (13, .int (nI (rtN w ro K d 6 t1))), (12, .int (nI ((7 * t1) + (nx t1 d)))), (11, .int (nI (mv w K ro 6 t1 d))), (0, .ref (ad 71)), (1, .int (nI (q0))), (4, .int (nI (d))), (5, .int (-6)), (7, .long (lN (fM w ro K d 6 6)))]) hx hb dX6_layWay_347 hl (k := 11) rfl (inc_up _ 1 (by decide)) (by decide) rfl (fun ls hl => ?_)
                          refine lv_goto (tgt := 153) hx hb dX6_layWay_350 (by decide) ?_
                          exact ih_153 (t1 + 1) (by omega) (by omega) (by rw [fC_s]; omega) _ _ hW _ (lv_sub hl [7, 8, 2, 1, 9, 10, 11, 3, 0] rfl)
                        ·
                          refine q_ic 1 hx hb dX6_layWay_276 (by decide) ?_
                          refine lv_goto (tgt := 281) hx hb dX6_layWay_277 (by decide) ?_
                          have hq2 : q < fC w ro K d 6 (t1 + 1) := by rw [fC_s]; omega
                          have hp1 : 0 < mv w K ro 6 t1 d := (rt_step (by omega : 0 < rtN w ro K d 6 t1)).1
                          refine lv_istore (lv' := [(9, .int (nI 1)), (13, .int (nI (rtN w ro K d 6 t1))), (12, .int (nI ((7 * t1) + (nx t1 d)))), (11, .int (nI (mv w K ro 6 t1 d))), (0, .ref (ad 71)), (1, .int (nI (q0))), (2, .int (nI (q - fC w ro K d 6 t1))), (3, .int (nI (a1 + fC w ro K d 6 t1))), (4, .int (nI (d))), (5, .int (-6)), (7, .long (lN (fM w ro K d 6 6))), (10, .int (nI (t1)))]) hx hb dX6_layWay_281 hl (by decide) rfl (fun ls hl => ?_)
                          refine lv_iload hx hb dX6_layWay_283 (lv_at hl 0 rfl) ?_
                          refine q_ieq (tgt := 337) hx hb dX6_layWay_285 (by decide) (by first | omega | exact Nat.lt_of_le_of_lt (hw3 _) (by decide)) (fun c_285 => absurd c_285 (by decide)) (fun c_285 => ?_)
                          refine lv_aload_n hx hb dX6_layWay_288 rfl (lv_at hl 4 rfl) ?_
                          refine g_6_11 (x := 71) (y := 81) hC hW (by omega) kd_71 gw_494 (hlk 71 11 81 (by omega) rfl) dX6_layWay_289 ?_
                          refine lv_aload_n hx hb dX6_layWay_292 rfl (lv_at hl 4 rfl) ?_
                          refine g_6_12 (x := 71) hC hW (by omega) kd_71 gw_495 dX6_layWay_293 ?_
                          refine q_top (v2 := .int (nI (s1))) (congrArg _ hF.2.1) ?_
                          refine lv_iload hx hb dX6_layWay_296 (lv_at hl 11 rfl) ?_
                          refine q_iast (x := 81) (i := s1) (v := nI t1) hC hW (by omega) kd_81 (by omega) dX6_layWay_298 (fun H locs hW => ?_)
                          refine lv_aload_n hx hb dX6_layWay_299 rfl (lv_at hl 4 rfl) ?_
                          refine lv_dup hx hb dX6_layWay_300 rfl ?_
                          refine g_6_12 (x := 71) hC hW (by omega) kd_71 gw_495 dX6_layWay_301 ?_
                          refine q_top (v2 := .int (nI (s1))) (congrArg _ (by rw [up2_ne (by decide)]; exact hF.2.1)) ?_
                          refine q_ic 1 hx hb dX6_layWay_304 (by decide) ?_
                          refine q_iadd hx hb dX6_layWay_305 ?_
                          refine p_6_12 (x := 71) (v := nI (s1 + 1)) hC hW (by omega) kd_71 gw_495 dX6_layWay_306 (fun H locs hW => ?_)
                          refine lv_aload_n hx hb dX6_layWay_309 rfl (lv_at hl 4 rfl) ?_
                          refine lv_dup hx hb dX6_layWay_310 rfl ?_
                          refine g_6_13 (x := 71) hC hW (by omega) kd_71 gw_496 dX6_layWay_311 ?_
                          refine lv_iload hx hb dX6_layWay_314 (lv_at hl 3 rfl) ?_
                          refine q_i2l hx hb dX6_layWay_316 (by first | omega | exact Nat.lt_of_le_of_lt (hw3 _) (by decide)) ?_
                          refine lv_lmul hx hb dX6_layWay_317 ?_
                          refine p_6_13 (x := 71) (v := (L1 71 13) * (lN (mv w K ro 6 t1 d))) hC hW (by omega) kd_71 gw_496 dX6_layWay_318 (fun H locs hW => ?_)
                          refine lv_iload hx hb dX6_layWay_321 (lv_at hl 11 rfl) ?_
                          refine lv_iload hx hb dX6_layWay_323 (lv_at hl 8 rfl) ?_
                          refine q_kI0 (q_rS (As := [.int (nI (t1)), .int (nI (d))]) (rest := []) hC hW mw_X6_toldThen gw_598 (k_toldThen l G n ad H.size (up2 (up2 I1 81 s1 (nI t1)) 71 12 (nI (s1 + 1))) (up2 L1 71 13 ((L1 71 13) * (lN (mv w K ro 6 t1 d)))) R _ _ (by omega) (by omega)) ⟨rfl, rfl⟩ ⟨Nat.le_of_ble_eq_true rfl, Nat.le_of_ble_eq_true rfl⟩ ⟨(Nat.le_of_ble_eq_true rfl), (Nat.le_of_ble_eq_true rfl)⟩ hl.1 rfl rfl (Nat.le_of_ble_eq_true rfl) dX6_layWay_325) hW (fun r_325 H locs hp hW => ?_)
                          subst hp
                          refine lv_istore (lv' := [(4, .int (nI (nx t1 d))), (9, .int (nI 1)), (13, .int (nI (rtN w ro K d 6 t1))), (12, .int (nI ((7 * t1) + (nx t1 d)))), (11, .int (nI (mv w K ro 6 t1 d))), (0, .ref (ad 71)), (1, .int (nI (q0))), (2, .int (nI (q - fC w ro K d 6 t1))), (3, .int (nI (a1 + fC w ro K d 6 t1))), (5, .int (-6)), (7, .long (lN (fM w ro K d 6 6))), (10, .int (nI (t1)))]) hx hb dX6_layWay_328 hl (by decide) rfl (fun ls hl => ?_)
                          refine lv_iload hx hb dX6_layWay_330 (lv_at hl 11 rfl) ?_
                          refine lv_istore (lv' := [(5, .int (nI (t1))), (4, .int (nI (nx t1 d))), (9, .int (nI 1)), (13, .int (nI (rtN w ro K d 6 t1))), (12, .int (nI ((7 * t1) + (nx t1 d)))), (11, .int (nI (mv w K ro 6 t1 d))), (0, .ref (ad 71)), (1, .int (nI (q0))), (2, .int (nI (q - fC w ro K d 6 t1))), (3, .int (nI (a1 + fC w ro K d 6 t1))), (7, .long (lN (fM w ro K d 6 6))), (10, .int (nI (t1)))]) hx hb dX6_layWay_332 hl (by decide) rfl (fun ls hl => ?_)
                          refine lv_goto (tgt := 347) hx hb dX6_layWay_334 (by decide) ?_
                          refine q_iinc (z2 := t1 + 1) (lv' := [(10, .int (nI (t1 + 1))), (5, .int (nI (t1))), (4, .int (nI (nx t1 d))), (9, .int (nI 1)), (13, .int (nI (rtN w ro K d 6 t1))), (12, .int (nI ((7 * t1) + (nx t1 d)))), (11, .int (nI (mv w K ro 6 t1 d))), (0, .ref (ad 71)), (1, .int (nI (q0))), (2, .int (nI (q - fC w ro K d 6 t1))), (3, .int (nI (a1 + fC w ro K d 6 t1))), (7, .long (lN (fM w ro K d 6 6)))]) hx hb dX6_layWay_347 hl (k := 11) rfl (inc_up _ 1 (by decide)) (by decide) rfl (fun ls hl => ?_)
                          refine lv_goto (tgt := 153) hx hb dX6_layWay_350 (by decide) ?_
                          refine lv_iload hx hb dX6_layWay_153 (lv_at hl 0 rfl) ?_
                          refine q_bp 6 hx hb dX6_layWay_155 (by decide) ?_
                          refine q_cge (tgt := 353) hx hb dX6_layWay_157 (by decide) (by first | omega | exact Nat.lt_of_le_of_lt (hw3 _) (by decide)) (by first | omega | exact Nat.lt_of_le_of_lt (hw3 _) (by decide)) (fun c_157 => ?_) (fun c_157 => ?_)
                          ·
                            refine lv_iload hx hb dX6_layWay_353 (lv_at hl 1 rfl) ?_
                            refine q_ic 4 hx hb dX6_layWay_355 (by decide) ?_
                            refine q_cge (tgt := 375) hx hb dX6_layWay_356 (by decide) (by first | omega | exact Nat.lt_of_le_of_lt (hw3 _) (by decide)) (by first | omega | exact Nat.lt_of_le_of_lt (hw3 _) (by decide)) (fun c_356 => ?_) (fun c_356 => ?_)
                            ·
                              refine q_ic 0 hx hb dX6_layWay_375 (by decide) ?_
                              refine lv_istore (lv' := [(6, .int (nI 0)), (10, .int (nI (t1 + 1))), (5, .int (nI (t1))), (4, .int (nI (nx t1 d))), (9, .int (nI 1)), (13, .int (nI (rtN w ro K d 6 t1))), (12, .int (nI ((7 * t1) + (nx t1 d)))), (11, .int (nI (mv w K ro 6 t1 d))), (0, .ref (ad 71)), (1, .int (nI (q0))), (2, .int (nI (q - fC w ro K d 6 t1))), (3, .int (nI (a1 + fC w ro K d 6 t1))), (7, .long (lN (fM w ro K d 6 6)))]) hx hb dX6_layWay_376 hl (by decide) rfl (fun ls hl => ?_)
                              have hnj := NJ_s hw hNJ hdK (show t1 < 6 by omega) hp1
                              have hbs := byN_s (w := w) (r := ro) hs18 hdK (show t1 < 6 by omega) hc hq2
                              have hfj := FJ_s (hbs ▸ hF) hs18
                              have hq3 : q - fC w ro K d 6 t1 < Cx' w K ro (K - nx t1 d) t1 := by have h8 := fC_s w ro K d 6 t1; rw [rt_p hp1] at h8; omega
                              have hen : bI (nx t1 d = K) = nI 0 := bI_f (by unfold nx; rw [if_neg (by omega)]; omega)
                              have hl : lv_has ls 14 [(6, .int (bI (nx t1 d = K))), (10, .int (nI (t1 + 1))), (5, .int (nI (t1))), (4, .int (nI (nx t1 d))), (9, .int (nI 1)), (13, .int (nI (rtN w ro K d 6 t1))), (12, .int (nI ((7 * t1) + (nx t1 d)))), (11, .int (nI (mv w K ro 6 t1 d))), (0, .ref (ad 71)), (1, .int (nI (q0))), (2, .int (nI (q - fC w ro K d 6 t1))), (3, .int (nI (a1 + fC w ro K d 6 t1))), (7, .long (lN (fM w ro K d 6 6)))] := by rw [hen]; exact hl
                              have hl : lv_has ls 14 [(6, .int (bI (nx t1 d = K))), (10, .int (nI (t1 + 1))), (5, .int (fr6 t1)), (4, .int (nI (nx t1 d))), (9, .int (nI 1)), (13, .int (nI (rtN w ro K d 6 t1))), (12, .int (nI ((7 * t1) + (nx t1 d)))), (11, .int (nI (mv w K ro 6 t1 d))), (0, .ref (ad 71)), (1, .int (nI (q0))), (2, .int (nI (q - fC w ro K d 6 t1))), (3, .int (nI (a1 + fC w ro K d 6 t1))), (7, .long (lN (fM w ro K d 6 6)))] := by rw [show fr6 t1 = nI t1 from if_neg (by omega)]; exact hl
                              refine lv_goto (tgt := 38) hx hb dX6_layWay_378 (by decide) ?_
                              exact ih_38 (s1 + 1) (nx t1 d) t1 (q - fC w ro K d 6 t1) (a1 + fC w ro K d 6 t1) (up2 (up2 I1 81 s1 (nI t1)) 71 12 (nI (s1 + 1))) (up2 L1 71 13 ((L1 71 13) * (lN (mv w K ro 6 t1 d)))) (by omega) hfj hnj hq3 _ _ hW _ (lv_sub hl [8, 9, 10, 11, 3, 2, 0] rfl)
                            ·
                              refine lv_iload hx hb dX6_layWay_359 (lv_at hl 2 rfl) ?_
                              refine lv_aload_n hx hb dX6_layWay_361 rfl (lv_at hl 7 rfl) ?_
                              refine g_6_0 (x := 71) (y := 72) hC hW (by omega) kd_71 gw_483 (hlk 71 0 72 (by omega) rfl) dX6_layWay_362 ?_
                              refine q_bp 58 hx hb dX6_layWay_365 (by decide) ?_
                              refine q_iald (x := 72) (i := 58) hC hW (by omega) kd_72 (by omega) dX6_layWay_367 ?_
                              refine q_top (v2 := .int (nI (K))) (congrArg _ (by rw [up2_ne (by decide), up2_ne (by decide)]; exact hN1.2.1)) ?_
                              refine q_cne (tgt := 375) hx hb dX6_layWay_368 (by decide) (by first | omega | exact Nat.lt_of_le_of_lt (hw3 _) (by decide)) (by first | omega | exact Nat.lt_of_le_of_lt (hw3 _) (by decide)) (fun c_368 => ?_) (fun c_368 => ?_)
                              ·
                                refine q_ic 0 hx hb dX6_layWay_375 (by decide) ?_
                                refine lv_istore (lv' := [(6, .int (nI 0)), (10, .int (nI (t1 + 1))), (5, .int (nI (t1))), (4, .int (nI (nx t1 d))), (9, .int (nI 1)), (13, .int (nI (rtN w ro K d 6 t1))), (12, .int (nI ((7 * t1) + (nx t1 d)))), (11, .int (nI (mv w K ro 6 t1 d))), (0, .ref (ad 71)), (1, .int (nI (q0))), (2, .int (nI (q - fC w ro K d 6 t1))), (3, .int (nI (a1 + fC w ro K d 6 t1))), (7, .long (lN (fM w ro K d 6 6)))]) hx hb dX6_layWay_376 hl (by decide) rfl (fun ls hl => ?_)
                                have hnj := NJ_s hw hNJ hdK (show t1 < 6 by omega) hp1
                                have hbs := byN_s (w := w) (r := ro) hs18 hdK (show t1 < 6 by omega) hc hq2
                                have hfj := FJ_s (hbs ▸ hF) hs18
                                have hq3 : q - fC w ro K d 6 t1 < Cx' w K ro (K - nx t1 d) t1 := by have h8 := fC_s w ro K d 6 t1; rw [rt_p hp1] at h8; omega
                                have hen : bI (nx t1 d = K) = nI 0 := bI_f (by omega)
                                have hl : lv_has ls 14 [(6, .int (bI (nx t1 d = K))), (10, .int (nI (t1 + 1))), (5, .int (nI (t1))), (4, .int (nI (nx t1 d))), (9, .int (nI 1)), (13, .int (nI (rtN w ro K d 6 t1))), (12, .int (nI ((7 * t1) + (nx t1 d)))), (11, .int (nI (mv w K ro 6 t1 d))), (0, .ref (ad 71)), (1, .int (nI (q0))), (2, .int (nI (q - fC w ro K d 6 t1))), (3, .int (nI (a1 + fC w ro K d 6 t1))), (7, .long (lN (fM w ro K d 6 6)))] := by rw [hen]; exact hl
                                have hl : lv_has ls 14 [(6, .int (bI (nx t1 d = K))), (10, .int (nI (t1 + 1))), (5, .int (fr6 t1)), (4, .int (nI (nx t1 d))), (9, .int (nI 1)), (13, .int (nI (rtN w ro K d 6 t1))), (12, .int (nI ((7 * t1) + (nx t1 d)))), (11, .int (nI (mv w K ro 6 t1 d))), (0, .ref (ad 71)), (1, .int (nI (q0))), (2, .int (nI (q - fC w ro K d 6 t1))), (3, .int (nI (a1 + fC w ro K d 6 t1))), (7, .long (lN (fM w ro K d 6 6)))] := by rw [show fr6 t1 = nI t1 from if_neg (by omega)]; exact hl
                                refine lv_goto (tgt := 38) hx hb dX6_layWay_378 (by decide) ?_
                                exact ih_38 (s1 + 1) (nx t1 d) t1 (q - fC w ro K d 6 t1) (a1 + fC w ro K d 6 t1) (up2 (up2 I1 81 s1 (nI t1)) 71 12 (nI (s1 + 1))) (up2 L1 71 13 ((L1 71 13) * (lN (mv w K ro 6 t1 d)))) (by omega) hfj hnj hq3 _ _ hW _ (lv_sub hl [8, 9, 10, 11, 3, 2, 0] rfl)
                              ·
                                refine q_ic 1 hx hb dX6_layWay_371 (by decide) ?_
                                refine lv_goto (tgt := 376) hx hb dX6_layWay_372 (by decide) ?_
                                refine lv_istore (lv' := [(6, .int (nI 1)), (10, .int (nI (t1 + 1))), (5, .int (nI (t1))), (4, .int (nI (nx t1 d))), (9, .int (nI 1)), (13, .int (nI (rtN w ro K d 6 t1))), (12, .int (nI ((7 * t1) + (nx t1 d)))), (11, .int (nI (mv w K ro 6 t1 d))), (0, .ref (ad 71)), (1, .int (nI (q0))), (2, .int (nI (q - fC w ro K d 6 t1))), (3, .int (nI (a1 + fC w ro K d 6 t1))), (7, .long (lN (fM w ro K d 6 6)))]) hx hb dX6_layWay_376 hl (by decide) rfl (fun ls hl => ?_)
                                have hnj := NJ_s hw hNJ hdK (show t1 < 6 by omega) hp1
                                have hbs := byN_s (w := w) (r := ro) hs18 hdK (show t1 < 6 by omega) hc hq2
                                have hfj := FJ_s (hbs ▸ hF) hs18
                                have hq3 : q - fC w ro K d 6 t1 < Cx' w K ro (K - nx t1 d) t1 := by have h8 := fC_s w ro K d 6 t1; rw [rt_p hp1] at h8; omega
                                have hen : bI (nx t1 d = K) = nI 1 := bI_t (by omega)
                                have hl : lv_has ls 14 [(6, .int (bI (nx t1 d = K))), (10, .int (nI (t1 + 1))), (5, .int (nI (t1))), (4, .int (nI (nx t1 d))), (9, .int (nI 1)), (13, .int (nI (rtN w ro K d 6 t1))), (12, .int (nI ((7 * t1) + (nx t1 d)))), (11, .int (nI (mv w K ro 6 t1 d))), (0, .ref (ad 71)), (1, .int (nI (q0))), (2, .int (nI (q - fC w ro K d 6 t1))), (3, .int (nI (a1 + fC w ro K d 6 t1))), (7, .long (lN (fM w ro K d 6 6)))] := by rw [hen]; exact hl
                                have hl : lv_has ls 14 [(6, .int (bI (nx t1 d = K))), (10, .int (nI (t1 + 1))), (5, .int (fr6 t1)), (4, .int (nI (nx t1 d))), (9, .int (nI 1)), (13, .int (nI (rtN w ro K d 6 t1))), (12, .int (nI ((7 * t1) + (nx t1 d)))), (11, .int (nI (mv w K ro 6 t1 d))), (0, .ref (ad 71)), (1, .int (nI (q0))), (2, .int (nI (q - fC w ro K d 6 t1))), (3, .int (nI (a1 + fC w ro K d 6 t1))), (7, .long (lN (fM w ro K d 6 6)))] := by rw [show fr6 t1 = nI t1 from if_neg (by omega)]; exact hl
                                refine lv_goto (tgt := 38) hx hb dX6_layWay_378 (by decide) ?_
                                exact ih_38 (s1 + 1) (nx t1 d) t1 (q - fC w ro K d 6 t1) (a1 + fC w ro K d 6 t1) (up2 (up2 I1 81 s1 (nI t1)) 71 12 (nI (s1 + 1))) (up2 L1 71 13 ((L1 71 13) * (lN (mv w K ro 6 t1 d)))) (by omega) hfj hnj hq3 _ _ hW _ (lv_sub hl [8, 9, 10, 11, 3, 2, 0] rfl)
                          ·
                            refine lv_iload hx hb dX6_layWay_160 (lv_at hl 3 rfl) ?_
                            refine q_ine (tgt := 353) hx hb dX6_layWay_162 (by decide) (by first | omega | exact Nat.lt_of_le_of_lt (hw3 _) (by decide)) (fun c_162 => ?_) (fun c_162 => absurd c_162 (by decide))
                            refine lv_iload hx hb dX6_layWay_353 (lv_at hl 1 rfl) ?_
                            refine q_ic 4 hx hb dX6_layWay_355 (by decide) ?_
                            refine q_cge (tgt := 375) hx hb dX6_layWay_356 (by decide) (by first | omega | exact Nat.lt_of_le_of_lt (hw3 _) (by decide)) (by first | omega | exact Nat.lt_of_le_of_lt (hw3 _) (by decide)) (fun c_356 => ?_) (fun c_356 => ?_)
                            ·
                              refine q_ic 0 hx hb dX6_layWay_375 (by decide) ?_
                              refine lv_istore (lv' := [(6, .int (nI 0)), (10, .int (nI (t1 + 1))), (5, .int (nI (t1))), (4, .int (nI (nx t1 d))), (9, .int (nI 1)), (13, .int (nI (rtN w ro K d 6 t1))), (12, .int (nI ((7 * t1) + (nx t1 d)))), (11, .int (nI (mv w K ro 6 t1 d))), (0, .ref (ad 71)), (1, .int (nI (q0))), (2, .int (nI (q - fC w ro K d 6 t1))), (3, .int (nI (a1 + fC w ro K d 6 t1))), (7, .long (lN (fM w ro K d 6 6)))]) hx hb dX6_layWay_376 hl (by decide) rfl (fun ls hl => ?_)
                              have hnj := NJ_s hw hNJ hdK (show t1 < 6 by omega) hp1
                              have hbs := byN_s (w := w) (r := ro) hs18 hdK (show t1 < 6 by omega) hc hq2
                              have hfj := FJ_s (hbs ▸ hF) hs18
                              have hq3 : q - fC w ro K d 6 t1 < Cx' w K ro (K - nx t1 d) t1 := by have h8 := fC_s w ro K d 6 t1; rw [rt_p hp1] at h8; omega
                              have hen : bI (nx t1 d = K) = nI 0 := bI_f (by unfold nx; rw [if_neg (by omega)]; omega)
                              have hl : lv_has ls 14 [(6, .int (bI (nx t1 d = K))), (10, .int (nI (t1 + 1))), (5, .int (nI (t1))), (4, .int (nI (nx t1 d))), (9, .int (nI 1)), (13, .int (nI (rtN w ro K d 6 t1))), (12, .int (nI ((7 * t1) + (nx t1 d)))), (11, .int (nI (mv w K ro 6 t1 d))), (0, .ref (ad 71)), (1, .int (nI (q0))), (2, .int (nI (q - fC w ro K d 6 t1))), (3, .int (nI (a1 + fC w ro K d 6 t1))), (7, .long (lN (fM w ro K d 6 6)))] := by rw [hen]; exact hl
                              have hl : lv_has ls 14 [(6, .int (bI (nx t1 d = K))), (10, .int (nI (t1 + 1))), (5, .int (fr6 t1)), (4, .int (nI (nx t1 d))), (9, .int (nI 1)), (13, .int (nI (rtN w ro K d 6 t1))), (12, .int (nI ((7 * t1) + (nx t1 d)))), (11, .int (nI (mv w K ro 6 t1 d))), (0, .ref (ad 71)), (1, .int (nI (q0))), (2, .int (nI (q - fC w ro K d 6 t1))), (3, .int (nI (a1 + fC w ro K d 6 t1))), (7, .long (lN (fM w ro K d 6 6)))] := by rw [show fr6 t1 = nI t1 from if_neg (by omega)]; exact hl
                              refine lv_goto (tgt := 38) hx hb dX6_layWay_378 (by decide) ?_
                              exact ih_38 (s1 + 1) (nx t1 d) t1 (q - fC w ro K d 6 t1) (a1 + fC w ro K d 6 t1) (up2 (up2 I1 81 s1 (nI t1)) 71 12 (nI (s1 + 1))) (up2 L1 71 13 ((L1 71 13) * (lN (mv w K ro 6 t1 d)))) (by omega) hfj hnj hq3 _ _ hW _ (lv_sub hl [8, 9, 10, 11, 3, 2, 0] rfl)
                            ·
                              refine lv_iload hx hb dX6_layWay_359 (lv_at hl 2 rfl) ?_
                              refine lv_aload_n hx hb dX6_layWay_361 rfl (lv_at hl 7 rfl) ?_
                              refine g_6_0 (x := 71) (y := 72) hC hW (by omega) kd_71 gw_483 (hlk 71 0 72 (by omega) rfl) dX6_layWay_362 ?_
                              refine q_bp 58 hx hb dX6_layWay_365 (by decide) ?_
                              refine q_iald (x := 72) (i := 58) hC hW (by omega) kd_72 (by omega) dX6_layWay_367 ?_
                              refine q_top (v2 := .int (nI (K))) (congrArg _ (by rw [up2_ne (by decide), up2_ne (by decide)]; exact hN1.2.1)) ?_
                              refine q_cne (tgt := 375) hx hb dX6_layWay_368 (by decide) (by first | omega | exact Nat.lt_of_le_of_lt (hw3 _) (by decide)) (by first | omega | exact Nat.lt_of_le_of_lt (hw3 _) (by decide)) (fun c_368 => ?_) (fun c_368 => ?_)
                              ·
                                refine q_ic 0 hx hb dX6_layWay_375 (by decide) ?_
                                refine lv_istore (lv' := [(6, .int (nI 0)), (10, .int (nI (t1 + 1))), (5, .int (nI (t1))), (4, .int (nI (nx t1 d))), (9, .int (nI 1)), (13, .int (nI (rtN w ro K d 6 t1))), (12, .int (nI ((7 * t1) + (nx t1 d)))), (11, .int (nI (mv w K ro 6 t1 d))), (0, .ref (ad 71)), (1, .int (nI (q0))), (2, .int (nI (q - fC w ro K d 6 t1))), (3, .int (nI (a1 + fC w ro K d 6 t1))), (7, .long (lN (fM w ro K d 6 6)))]) hx hb dX6_layWay_376 hl (by decide) rfl (fun ls hl => ?_)
                                have hnj := NJ_s hw hNJ hdK (show t1 < 6 by omega) hp1
                                have hbs := byN_s (w := w) (r := ro) hs18 hdK (show t1 < 6 by omega) hc hq2
                                have hfj := FJ_s (hbs ▸ hF) hs18
                                have hq3 : q - fC w ro K d 6 t1 < Cx' w K ro (K - nx t1 d) t1 := by have h8 := fC_s w ro K d 6 t1; rw [rt_p hp1] at h8; omega
                                have hen : bI (nx t1 d = K) = nI 0 := bI_f (by omega)
                                have hl : lv_has ls 14 [(6, .int (bI (nx t1 d = K))), (10, .int (nI (t1 + 1))), (5, .int (nI (t1))), (4, .int (nI (nx t1 d))), (9, .int (nI 1)), (13, .int (nI (rtN w ro K d 6 t1))), (12, .int (nI ((7 * t1) + (nx t1 d)))), (11, .int (nI (mv w K ro 6 t1 d))), (0, .ref (ad 71)), (1, .int (nI (q0))), (2, .int (nI (q - fC w ro K d 6 t1))), (3, .int (nI (a1 + fC w ro K d 6 t1))), (7, .long (lN (fM w ro K d 6 6)))] := by rw [hen]; exact hl
                                have hl : lv_has ls 14 [(6, .int (bI (nx t1 d = K))), (10, .int (nI (t1 + 1))), (5, .int (fr6 t1)), (4, .int (nI (nx t1 d))), (9, .int (nI 1)), (13, .int (nI (rtN w ro K d 6 t1))), (12, .int (nI ((7 * t1) + (nx t1 d)))), (11, .int (nI (mv w K ro 6 t1 d))), (0, .ref (ad 71)), (1, .int (nI (q0))), (2, .int (nI (q - fC w ro K d 6 t1))), (3, .int (nI (a1 + fC w ro K d 6 t1))), (7, .long (lN (fM w ro K d 6 6)))] := by rw [show fr6 t1 = nI t1 from if_neg (by omega)]; exact hl
                                refine lv_goto (tgt := 38) hx hb dX6_layWay_378 (by decide) ?_
                                exact ih_38 (s1 + 1) (nx t1 d) t1 (q - fC w ro K d 6 t1) (a1 + fC w ro K d 6 t1) (up2 (up2 I1 81 s1 (nI t1)) 71 12 (nI (s1 + 1))) (up2 L1 71 13 ((L1 71 13) * (lN (mv w K ro 6 t1 d)))) (by omega) hfj hnj hq3 _ _ hW _ (lv_sub hl [8, 9, 10, 11, 3, 2, 0] rfl)
                              ·
                                refine q_ic 1 hx hb dX6_layWay_371 (by decide) ?_
                                refine lv_goto (tgt := 376) hx hb dX6_layWay_372 (by decide) ?_
                                refine lv_istore (lv' := [(6, .int (nI 1)), (10, .int (nI (t1 + 1))), (5, .int (nI (t1))), (4, .int (nI (nx t1 d))), (9, .int (nI 1)), (13, .int (nI (rtN w ro K d 6 t1))), (12, .int (nI ((7 * t1) + (nx t1 d)))), (11, .int (nI (mv w K ro 6 t1 d))), (0, .ref (ad 71)), (1, .int (nI (q0))), (2, .int (nI (q - fC w ro K d 6 t1))), (3, .int (nI (a1 + fC w ro K d 6 t1))), (7, .long (lN (fM w ro K d 6 6)))]) hx hb dX6_layWay_376 hl (by decide) rfl (fun ls hl => ?_)
                                have hnj := NJ_s hw hNJ hdK (show t1 < 6 by omega) hp1
                                have hbs := byN_s (w := w) (r := ro) hs18 hdK (show t1 < 6 by omega) hc hq2
                                have hfj := FJ_s (hbs ▸ hF) hs18
                                have hq3 : q - fC w ro K d 6 t1 < Cx' w K ro (K - nx t1 d) t1 := by have h8 := fC_s w ro K d 6 t1; rw [rt_p hp1] at h8; omega
                                have hen : bI (nx t1 d = K) = nI 1 := bI_t (by omega)
                                have hl : lv_has ls 14 [(6, .int (bI (nx t1 d = K))), (10, .int (nI (t1 + 1))), (5, .int (nI (t1))), (4, .int (nI (nx t1 d))), (9, .int (nI 1)), (13, .int (nI (rtN w ro K d 6 t1))), (12, .int (nI ((7 * t1) + (nx t1 d)))), (11, .int (nI (mv w K ro 6 t1 d))), (0, .ref (ad 71)), (1, .int (nI (q0))), (2, .int (nI (q - fC w ro K d 6 t1))), (3, .int (nI (a1 + fC w ro K d 6 t1))), (7, .long (lN (fM w ro K d 6 6)))] := by rw [hen]; exact hl
                                have hl : lv_has ls 14 [(6, .int (bI (nx t1 d = K))), (10, .int (nI (t1 + 1))), (5, .int (fr6 t1)), (4, .int (nI (nx t1 d))), (9, .int (nI 1)), (13, .int (nI (rtN w ro K d 6 t1))), (12, .int (nI ((7 * t1) + (nx t1 d)))), (11, .int (nI (mv w K ro 6 t1 d))), (0, .ref (ad 71)), (1, .int (nI (q0))), (2, .int (nI (q - fC w ro K d 6 t1))), (3, .int (nI (a1 + fC w ro K d 6 t1))), (7, .long (lN (fM w ro K d 6 6)))] := by rw [show fr6 t1 = nI t1 from if_neg (by omega)]; exact hl
                                refine lv_goto (tgt := 38) hx hb dX6_layWay_378 (by decide) ?_
                                exact ih_38 (s1 + 1) (nx t1 d) t1 (q - fC w ro K d 6 t1) (a1 + fC w ro K d 6 t1) (up2 (up2 I1 81 s1 (nI t1)) 71 12 (nI (s1 + 1))) (up2 L1 71 13 ((L1 71 13) * (lN (mv w K ro 6 t1 d)))) (by omega) hfj hnj hq3 _ _ hW _ (lv_sub hl [8, 9, 10, 11, 3, 2, 0] rfl)
                      ·
                        have hp1 : 0 < mv w K ro 6 t1 d := by omega
                        have hnx : nx t1 d ≤ K := nx_K2 hp1 (by omega)
                        have hmb := mM_lt hw (r := ro) K d 6 t1 hk6
                        refine lv_aload_n hx hb dX6_layWay_218 rfl (lv_at hl 2 rfl) ?_
                        refine g_6_9 (x := 71) (y := 79) hC hW (by omega) kd_71 gw_492 (hlk 71 9 79 (by omega) rfl) dX6_layWay_219 ?_
                        refine lv_iload hx hb dX6_layWay_222 (lv_at hl 0 rfl) ?_
                        refine q_iald (x := 79) (i := (7 * t1) + (nx t1 d)) hC hW (by omega) kd_79 (by omega) dX6_layWay_224 ?_
                        refine q_top (v2 := .int (nI (Cx' w K ro (K - (nx t1 d)) t1))) (congrArg _ (hB1 (nx t1 d) t1 (by omega) hnx (by omega)).2.2) ?_
                        refine lv_goto (tgt := 229) hx hb dX6_layWay_225 (by decide) ?_
                        have hrb := rtN_b hw (r := ro) (K := K) (d := d) (f := 6) (t := t1) hk6
                        refine q_top (v2 := .int (nI (rtN w ro K d 6 t1))) (by rw [rt_p hp1]) ?_
                        refine lv_istore (lv' := [(13, .int (nI (rtN w ro K d 6 t1))), (12, .int (nI ((7 * t1) + (nx t1 d)))), (11, .int (nI (mv w K ro 6 t1 d))), (0, .ref (ad 71)), (1, .int (nI (q0))), (2, .int (nI (q - fC w ro K d 6 t1))), (3, .int (nI (a1 + fC w ro K d 6 t1))), (4, .int (nI (d))), (5, .int (-6)), (7, .long (lN (fM w ro K d 6 6))), (9, .int (nI 0)), (10, .int (nI (t1)))]) hx hb dX6_layWay_229 hl (by decide) rfl (fun ls hl => ?_)
                        refine lv_iload_n hx hb dX6_layWay_231 rfl (lv_at hl 4 rfl) ?_
                        refine lv_if_ge (tgt := 270) hx hb dX6_layWay_232 (by decide) (fun c_232 => ?_) (fun c_232 => absurd (Int32.not_lt.mp (nI_pos (by omega))) c_232)
                        refine lv_iload_n hx hb dX6_layWay_270 rfl (lv_at hl 5 rfl) ?_
                        refine lv_iload hx hb dX6_layWay_271 (lv_at hl 0 rfl) ?_
                        refine q_cge (tgt := 280) hx hb dX6_layWay_273 (by decide) (by first | omega | exact Nat.lt_of_le_of_lt (hw3 _) (by decide)) (by first | omega | exact Nat.lt_of_le_of_lt (hw3 _) (by decide)) (fun c_273 => ?_) (fun c_273 => ?_)
                        ·
                          refine q_ic 0 hx hb dX6_layWay_280 (by decide) ?_
                          refine lv_istore (lv' := [(9, .int (nI 0)), (13, .int (nI (rtN w ro K d 6 t1))), (12, .int (nI ((7 * t1) + (nx t1 d)))), (11, .int (nI (mv w K ro 6 t1 d))), (0, .ref (ad 71)), (1, .int (nI (q0))), (2, .int (nI (q - fC w ro K d 6 t1))), (3, .int (nI (a1 + fC w ro K d 6 t1))), (4, .int (nI (d))), (5, .int (-6)), (7, .long (lN (fM w ro K d 6 6))), (10, .int (nI (t1)))]) hx hb dX6_layWay_281 hl (by decide) rfl (fun ls hl => ?_)
                          refine lv_iload hx hb dX6_layWay_283 (lv_at hl 0 rfl) ?_
                          refine q_ieq (tgt := 337) hx hb dX6_layWay_285 (by decide) (by first | omega | exact Nat.lt_of_le_of_lt (hw3 _) (by decide)) (fun c_285 => ?_) (fun c_285 => absurd c_285 (by decide))
                          refine lv_iload_n hx hb dX6_layWay_337 rfl (lv_at hl 6 rfl) ?_
                          refine lv_iload hx hb dX6_layWay_338 (lv_at hl 1 rfl) ?_
                          refine q_isub hx hb dX6_layWay_340 (by omega) ?_
                          refine q_top (v2 := .int (nI (q - fC w ro K d 6 (t1 + 1)))) (by rw [fC_s, Nat.sub_add_eq]) ?_
                          refine lv_istore_n (lv' := [(2, .int (nI (q - fC w ro K d 6 (t1 + 1)))), (9, .int (nI 0)), (13, .int (nI (rtN w ro K d 6 t1))), (12, .int (nI ((7 * t1) + (nx t1 d)))), (11, .int (nI (mv w K ro 6 t1 d))), (0, .ref (ad 71)), (1, .int (nI (q0))), (3, .int (nI (a1 + fC w ro K d 6 t1))), (4, .int (nI (d))), (5, .int (-6)), (7, .long (lN (fM w ro K d 6 6))), (10, .int (nI (t1)))]) hx hb dX6_layWay_341 rfl hl (by decide) rfl (fun ls hl => ?_)
                          refine lv_iload_n hx hb dX6_layWay_342 rfl (lv_at hl 7 rfl) ?_
                          refine lv_iload hx hb dX6_layWay_343 (lv_at hl 2 rfl) ?_
                          refine q_iadd hx hb dX6_layWay_345 ?_
                          refine q_top (v2 := .int (nI (a1 + fC w ro K d 6 (t1 + 1)))) (by rw [fC_s, Nat.add_assoc]) ?_
                          refine lv_istore_n (lv' := [(3, .int (nI (a1 + fC w ro K d 6 (t1 + 1)))), (2, .int (nI (q - fC w ro K d 6 (t1 + 1)))), (9, .int (nI 0)), (13, .int (nI (rtN w ro K d 6 t1))), (12, .int (nI ((7 * t1) + (nx t1 d)))), (11, .int (nI (mv w K ro 6 t1 d))), (0, .ref (ad 71)), (1, .int (nI (q0))), (4, .int (nI (d))), (5, .int (-6)), (7, .long (lN (fM w ro K d 6 6))), (10, .int (nI (t1)))]) hx hb dX6_layWay_346 rfl hl (by decide) rfl (fun ls hl => ?_)
                          refine q_iinc (z2 := t1 + 1) (lv' := [(10, .int (nI (t1 + 1))), (3, .int (nI (a1 + fC w ro K d 6 (t1 + 1)))), (2, .int (nI (q - fC w ro K d 6 (t1 + 1)))), (9, .int (nI 0)), (13, .int (nI (rtN w ro K d 6 t1))), (12, .int (nI ((7 * t1) + (nx t1 d)))), (11, .int (nI (mv w K ro 6 t1 d))), (0, .ref (ad 71)), (1, .int (nI (q0))), (4, .int (nI (d))), (5, .int (-6)), (7, .long (lN (fM w ro K d 6 6)))]) hx hb dX6_layWay_347 hl (k := 11) rfl (inc_up _ 1 (by decide)) (by decide) rfl (fun ls hl => ?_)
                          refine lv_goto (tgt := 153) hx hb dX6_layWay_350 (by decide) ?_
                          exact ih_153 (t1 + 1) (by omega) (by omega) (by rw [fC_s]; omega) _ _ hW _ (lv_sub hl [7, 8, 2, 1, 9, 10, 11, 3, 0] rfl)
                        ·
                          refine q_ic 1 hx hb dX6_layWay_276 (by decide) ?_
                          refine lv_goto (tgt := 281) hx hb dX6_layWay_277 (by decide) ?_
                          have hq2 : q < fC w ro K d 6 (t1 + 1) := by rw [fC_s]; omega
                          refine lv_istore (lv' := [(9, .int (nI 1)), (13, .int (nI (rtN w ro K d 6 t1))), (12, .int (nI ((7 * t1) + (nx t1 d)))), (11, .int (nI (mv w K ro 6 t1 d))), (0, .ref (ad 71)), (1, .int (nI (q0))), (2, .int (nI (q - fC w ro K d 6 t1))), (3, .int (nI (a1 + fC w ro K d 6 t1))), (4, .int (nI (d))), (5, .int (-6)), (7, .long (lN (fM w ro K d 6 6))), (10, .int (nI (t1)))]) hx hb dX6_layWay_281 hl (by decide) rfl (fun ls hl => ?_)
                          refine lv_iload hx hb dX6_layWay_283 (lv_at hl 0 rfl) ?_
                          refine q_ieq (tgt := 337) hx hb dX6_layWay_285 (by decide) (by first | omega | exact Nat.lt_of_le_of_lt (hw3 _) (by decide)) (fun c_285 => absurd c_285 (by decide)) (fun c_285 => ?_)
                          refine lv_aload_n hx hb dX6_layWay_288 rfl (lv_at hl 4 rfl) ?_
                          refine g_6_11 (x := 71) (y := 81) hC hW (by omega) kd_71 gw_494 (hlk 71 11 81 (by omega) rfl) dX6_layWay_289 ?_
                          refine lv_aload_n hx hb dX6_layWay_292 rfl (lv_at hl 4 rfl) ?_
                          refine g_6_12 (x := 71) hC hW (by omega) kd_71 gw_495 dX6_layWay_293 ?_
                          refine q_top (v2 := .int (nI (s1))) (congrArg _ hF.2.1) ?_
                          refine lv_iload hx hb dX6_layWay_296 (lv_at hl 11 rfl) ?_
                          refine q_iast (x := 81) (i := s1) (v := nI t1) hC hW (by omega) kd_81 (by omega) dX6_layWay_298 (fun H locs hW => ?_)
                          refine lv_aload_n hx hb dX6_layWay_299 rfl (lv_at hl 4 rfl) ?_
                          refine lv_dup hx hb dX6_layWay_300 rfl ?_
                          refine g_6_12 (x := 71) hC hW (by omega) kd_71 gw_495 dX6_layWay_301 ?_
                          refine q_top (v2 := .int (nI (s1))) (congrArg _ (by rw [up2_ne (by decide)]; exact hF.2.1)) ?_
                          refine q_ic 1 hx hb dX6_layWay_304 (by decide) ?_
                          refine q_iadd hx hb dX6_layWay_305 ?_
                          refine p_6_12 (x := 71) (v := nI (s1 + 1)) hC hW (by omega) kd_71 gw_495 dX6_layWay_306 (fun H locs hW => ?_)
                          refine lv_aload_n hx hb dX6_layWay_309 rfl (lv_at hl 4 rfl) ?_
                          refine lv_dup hx hb dX6_layWay_310 rfl ?_
                          refine g_6_13 (x := 71) hC hW (by omega) kd_71 gw_496 dX6_layWay_311 ?_
                          refine lv_iload hx hb dX6_layWay_314 (lv_at hl 3 rfl) ?_
                          refine q_i2l hx hb dX6_layWay_316 (by first | omega | exact Nat.lt_of_le_of_lt (hw3 _) (by decide)) ?_
                          refine lv_lmul hx hb dX6_layWay_317 ?_
                          refine p_6_13 (x := 71) (v := (L1 71 13) * (lN (mv w K ro 6 t1 d))) hC hW (by omega) kd_71 gw_496 dX6_layWay_318 (fun H locs hW => ?_)
                          refine lv_iload hx hb dX6_layWay_321 (lv_at hl 11 rfl) ?_
                          refine lv_iload hx hb dX6_layWay_323 (lv_at hl 8 rfl) ?_
                          refine q_kI0 (q_rS (As := [.int (nI (t1)), .int (nI (d))]) (rest := []) hC hW mw_X6_toldThen gw_598 (k_toldThen l G n ad H.size (up2 (up2 I1 81 s1 (nI t1)) 71 12 (nI (s1 + 1))) (up2 L1 71 13 ((L1 71 13) * (lN (mv w K ro 6 t1 d)))) R _ _ (by omega) (by omega)) ⟨rfl, rfl⟩ ⟨Nat.le_of_ble_eq_true rfl, Nat.le_of_ble_eq_true rfl⟩ ⟨(Nat.le_of_ble_eq_true rfl), (Nat.le_of_ble_eq_true rfl)⟩ hl.1 rfl rfl (Nat.le_of_ble_eq_true rfl) dX6_layWay_325) hW (fun r_325 H locs hp hW => ?_)
                          subst hp
                          refine lv_istore (lv' := [(4, .int (nI (nx t1 d))), (9, .int (nI 1)), (13, .int (nI (rtN w ro K d 6 t1))), (12, .int (nI ((7 * t1) + (nx t1 d)))), (11, .int (nI (mv w K ro 6 t1 d))), (0, .ref (ad 71)), (1, .int (nI (q0))), (2, .int (nI (q - fC w ro K d 6 t1))), (3, .int (nI (a1 + fC w ro K d 6 t1))), (5, .int (-6)), (7, .long (lN (fM w ro K d 6 6))), (10, .int (nI (t1)))]) hx hb dX6_layWay_328 hl (by decide) rfl (fun ls hl => ?_)
                          refine lv_iload hx hb dX6_layWay_330 (lv_at hl 11 rfl) ?_
                          refine lv_istore (lv' := [(5, .int (nI (t1))), (4, .int (nI (nx t1 d))), (9, .int (nI 1)), (13, .int (nI (rtN w ro K d 6 t1))), (12, .int (nI ((7 * t1) + (nx t1 d)))), (11, .int (nI (mv w K ro 6 t1 d))), (0, .ref (ad 71)), (1, .int (nI (q0))), (2, .int (nI (q - fC w ro K d 6 t1))), (3, .int (nI (a1 + fC w ro K d 6 t1))), (7, .long (lN (fM w ro K d 6 6))), (10, .int (nI (t1)))]) hx hb dX6_layWay_332 hl (by decide) rfl (fun ls hl => ?_)
                          refine lv_goto (tgt := 347) hx hb dX6_layWay_334 (by decide) ?_
                          refine q_iinc (z2 := t1 + 1) (lv' := [(10, .int (nI (t1 + 1))), (5, .int (nI (t1))), (4, .int (nI (nx t1 d))), (9, .int (nI 1)), (13, .int (nI (rtN w ro K d 6 t1))), (12, .int (nI ((7 * t1) + (nx t1 d)))), (11, .int (nI (mv w K ro 6 t1 d))), (0, .ref (ad 71)), (1, .int (nI (q0))), (2, .int (nI (q - fC w ro K d 6 t1))), (3, .int (nI (a1 + fC w ro K d 6 t1))), (7, .long (lN (fM w ro K d 6 6)))]) hx hb dX6_layWay_347 hl (k := 11) rfl (inc_up _ 1 (by decide)) (by decide) rfl (fun ls hl => ?_)
                          refine lv_goto (tgt := 153) hx hb dX6_layWay_350 (by decide) ?_
                          refine lv_iload hx hb dX6_layWay_153 (lv_at hl 0 rfl) ?_
                          refine q_bp 6 hx hb dX6_layWay_155 (by decide) ?_
                          refine q_cge (tgt := 353) hx hb dX6_layWay_157 (by decide) (by first | omega | exact Nat.lt_of_le_of_lt (hw3 _) (by decide)) (by first | omega | exact Nat.lt_of_le_of_lt (hw3 _) (by decide)) (fun c_157 => ?_) (fun c_157 => ?_)
                          ·
                            refine lv_iload hx hb dX6_layWay_353 (lv_at hl 1 rfl) ?_
                            refine q_ic 4 hx hb dX6_layWay_355 (by decide) ?_
                            refine q_cge (tgt := 375) hx hb dX6_layWay_356 (by decide) (by first | omega | exact Nat.lt_of_le_of_lt (hw3 _) (by decide)) (by first | omega | exact Nat.lt_of_le_of_lt (hw3 _) (by decide)) (fun c_356 => ?_) (fun c_356 => ?_)
                            ·
                              refine q_ic 0 hx hb dX6_layWay_375 (by decide) ?_
                              refine lv_istore (lv' := [(6, .int (nI 0)), (10, .int (nI (t1 + 1))), (5, .int (nI (t1))), (4, .int (nI (nx t1 d))), (9, .int (nI 1)), (13, .int (nI (rtN w ro K d 6 t1))), (12, .int (nI ((7 * t1) + (nx t1 d)))), (11, .int (nI (mv w K ro 6 t1 d))), (0, .ref (ad 71)), (1, .int (nI (q0))), (2, .int (nI (q - fC w ro K d 6 t1))), (3, .int (nI (a1 + fC w ro K d 6 t1))), (7, .long (lN (fM w ro K d 6 6)))]) hx hb dX6_layWay_376 hl (by decide) rfl (fun ls hl => ?_)
                              have hnj := NJ_s hw hNJ hdK (show t1 < 6 by omega) hp1
                              have hbs := byN_s (w := w) (r := ro) hs18 hdK (show t1 < 6 by omega) hc hq2
                              have hfj := FJ_s (hbs ▸ hF) hs18
                              have hq3 : q - fC w ro K d 6 t1 < Cx' w K ro (K - nx t1 d) t1 := by have h8 := fC_s w ro K d 6 t1; rw [rt_p hp1] at h8; omega
                              have hen : bI (nx t1 d = K) = nI 0 := bI_f (by unfold nx; rw [if_neg (by omega)]; omega)
                              have hl : lv_has ls 14 [(6, .int (bI (nx t1 d = K))), (10, .int (nI (t1 + 1))), (5, .int (nI (t1))), (4, .int (nI (nx t1 d))), (9, .int (nI 1)), (13, .int (nI (rtN w ro K d 6 t1))), (12, .int (nI ((7 * t1) + (nx t1 d)))), (11, .int (nI (mv w K ro 6 t1 d))), (0, .ref (ad 71)), (1, .int (nI (q0))), (2, .int (nI (q - fC w ro K d 6 t1))), (3, .int (nI (a1 + fC w ro K d 6 t1))), (7, .long (lN (fM w ro K d 6 6)))] := by rw [hen]; exact hl
                              have hl : lv_has ls 14 [(6, .int (bI (nx t1 d = K))), (10, .int (nI (t1 + 1))), (5, .int (fr6 t1)), (4, .int (nI (nx t1 d))), (9, .int (nI 1)), (13, .int (nI (rtN w ro K d 6 t1))), (12, .int (nI ((7 * t1) + (nx t1 d)))), (11, .int (nI (mv w K ro 6 t1 d))), (0, .ref (ad 71)), (1, .int (nI (q0))), (2, .int (nI (q - fC w ro K d 6 t1))), (3, .int (nI (a1 + fC w ro K d 6 t1))), (7, .long (lN (fM w ro K d 6 6)))] := by rw [show fr6 t1 = nI t1 from if_neg (by omega)]; exact hl
                              refine lv_goto (tgt := 38) hx hb dX6_layWay_378 (by decide) ?_
                              exact ih_38 (s1 + 1) (nx t1 d) t1 (q - fC w ro K d 6 t1) (a1 + fC w ro K d 6 t1) (up2 (up2 I1 81 s1 (nI t1)) 71 12 (nI (s1 + 1))) (up2 L1 71 13 ((L1 71 13) * (lN (mv w K ro 6 t1 d)))) (by omega) hfj hnj hq3 _ _ hW _ (lv_sub hl [8, 9, 10, 11, 3, 2, 0] rfl)
                            ·
                              refine lv_iload hx hb dX6_layWay_359 (lv_at hl 2 rfl) ?_
                              refine lv_aload_n hx hb dX6_layWay_361 rfl (lv_at hl 7 rfl) ?_
                              refine g_6_0 (x := 71) (y := 72) hC hW (by omega) kd_71 gw_483 (hlk 71 0 72 (by omega) rfl) dX6_layWay_362 ?_
                              refine q_bp 58 hx hb dX6_layWay_365 (by decide) ?_
                              refine q_iald (x := 72) (i := 58) hC hW (by omega) kd_72 (by omega) dX6_layWay_367 ?_
                              refine q_top (v2 := .int (nI (K))) (congrArg _ (by rw [up2_ne (by decide), up2_ne (by decide)]; exact hN1.2.1)) ?_
                              refine q_cne (tgt := 375) hx hb dX6_layWay_368 (by decide) (by first | omega | exact Nat.lt_of_le_of_lt (hw3 _) (by decide)) (by first | omega | exact Nat.lt_of_le_of_lt (hw3 _) (by decide)) (fun c_368 => ?_) (fun c_368 => ?_)
                              ·
                                refine q_ic 0 hx hb dX6_layWay_375 (by decide) ?_
                                refine lv_istore (lv' := [(6, .int (nI 0)), (10, .int (nI (t1 + 1))), (5, .int (nI (t1))), (4, .int (nI (nx t1 d))), (9, .int (nI 1)), (13, .int (nI (rtN w ro K d 6 t1))), (12, .int (nI ((7 * t1) + (nx t1 d)))), (11, .int (nI (mv w K ro 6 t1 d))), (0, .ref (ad 71)), (1, .int (nI (q0))), (2, .int (nI (q - fC w ro K d 6 t1))), (3, .int (nI (a1 + fC w ro K d 6 t1))), (7, .long (lN (fM w ro K d 6 6)))]) hx hb dX6_layWay_376 hl (by decide) rfl (fun ls hl => ?_)
                                have hnj := NJ_s hw hNJ hdK (show t1 < 6 by omega) hp1
                                have hbs := byN_s (w := w) (r := ro) hs18 hdK (show t1 < 6 by omega) hc hq2
                                have hfj := FJ_s (hbs ▸ hF) hs18
                                have hq3 : q - fC w ro K d 6 t1 < Cx' w K ro (K - nx t1 d) t1 := by have h8 := fC_s w ro K d 6 t1; rw [rt_p hp1] at h8; omega
                                have hen : bI (nx t1 d = K) = nI 0 := bI_f (by omega)
                                have hl : lv_has ls 14 [(6, .int (bI (nx t1 d = K))), (10, .int (nI (t1 + 1))), (5, .int (nI (t1))), (4, .int (nI (nx t1 d))), (9, .int (nI 1)), (13, .int (nI (rtN w ro K d 6 t1))), (12, .int (nI ((7 * t1) + (nx t1 d)))), (11, .int (nI (mv w K ro 6 t1 d))), (0, .ref (ad 71)), (1, .int (nI (q0))), (2, .int (nI (q - fC w ro K d 6 t1))), (3, .int (nI (a1 + fC w ro K d 6 t1))), (7, .long (lN (fM w ro K d 6 6)))] := by rw [hen]; exact hl
                                have hl : lv_has ls 14 [(6, .int (bI (nx t1 d = K))), (10, .int (nI (t1 + 1))), (5, .int (fr6 t1)), (4, .int (nI (nx t1 d))), (9, .int (nI 1)), (13, .int (nI (rtN w ro K d 6 t1))), (12, .int (nI ((7 * t1) + (nx t1 d)))), (11, .int (nI (mv w K ro 6 t1 d))), (0, .ref (ad 71)), (1, .int (nI (q0))), (2, .int (nI (q - fC w ro K d 6 t1))), (3, .int (nI (a1 + fC w ro K d 6 t1))), (7, .long (lN (fM w ro K d 6 6)))] := by rw [show fr6 t1 = nI t1 from if_neg (by omega)]; exact hl
                                refine lv_goto (tgt := 38) hx hb dX6_layWay_378 (by decide) ?_
                                exact ih_38 (s1 + 1) (nx t1 d) t1 (q - fC w ro K d 6 t1) (a1 + fC w ro K d 6 t1) (up2 (up2 I1 81 s1 (nI t1)) 71 12 (nI (s1 + 1))) (up2 L1 71 13 ((L1 71 13) * (lN (mv w K ro 6 t1 d)))) (by omega) hfj hnj hq3 _ _ hW _ (lv_sub hl [8, 9, 10, 11, 3, 2, 0] rfl)
                              ·
                                refine q_ic 1 hx hb dX6_layWay_371 (by decide) ?_
                                refine lv_goto (tgt := 376) hx hb dX6_layWay_372 (by decide) ?_
                                refine lv_istore (lv' := [(6, .int (nI 1)), (10, .int (nI (t1 + 1))), (5, .int (nI (t1))), (4, .int (nI (nx t1 d))), (9, .int (nI 1)), (13, .int (nI (rtN w ro K d 6 t1))), (12, .int (nI ((7 * t1) + (nx t1 d)))), (11, .int (nI (mv w K ro 6 t1 d))), (0, .ref (ad 71)), (1, .int (nI (q0))), (2, .int (nI (q - fC w ro K d 6 t1))), (3, .int (nI (a1 + fC w ro K d 6 t1))), (7, .long (lN (fM w ro K d 6 6)))]) hx hb dX6_layWay_376 hl (by decide) rfl (fun ls hl => ?_)
                                have hnj := NJ_s hw hNJ hdK (show t1 < 6 by omega) hp1
                                have hbs := byN_s (w := w) (r := ro) hs18 hdK (show t1 < 6 by omega) hc hq2
                                have hfj := FJ_s (hbs ▸ hF) hs18
                                have hq3 : q - fC w ro K d 6 t1 < Cx' w K ro (K - nx t1 d) t1 := by have h8 := fC_s w ro K d 6 t1; rw [rt_p hp1] at h8; omega
                                have hen : bI (nx t1 d = K) = nI 1 := bI_t (by omega)
                                have hl : lv_has ls 14 [(6, .int (bI (nx t1 d = K))), (10, .int (nI (t1 + 1))), (5, .int (nI (t1))), (4, .int (nI (nx t1 d))), (9, .int (nI 1)), (13, .int (nI (rtN w ro K d 6 t1))), (12, .int (nI ((7 * t1) + (nx t1 d)))), (11, .int (nI (mv w K ro 6 t1 d))), (0, .ref (ad 71)), (1, .int (nI (q0))), (2, .int (nI (q - fC w ro K d 6 t1))), (3, .int (nI (a1 + fC w ro K d 6 t1))), (7, .long (lN (fM w ro K d 6 6)))] := by rw [hen]; exact hl
                                have hl : lv_has ls 14 [(6, .int (bI (nx t1 d = K))), (10, .int (nI (t1 + 1))), (5, .int (fr6 t1)), (4, .int (nI (nx t1 d))), (9, .int (nI 1)), (13, .int (nI (rtN w ro K d 6 t1))), (12, .int (nI ((7 * t1) + (nx t1 d)))), (11, .int (nI (mv w K ro 6 t1 d))), (0, .ref (ad 71)), (1, .int (nI (q0))), (2, .int (nI (q - fC w ro K d 6 t1))), (3, .int (nI (a1 + fC w ro K d 6 t1))), (7, .long (lN (fM w ro K d 6 6)))] := by rw [show fr6 t1 = nI t1 from if_neg (by omega)]; exact hl
                                refine lv_goto (tgt := 38) hx hb dX6_layWay_378 (by decide) ?_
                                exact ih_38 (s1 + 1) (nx t1 d) t1 (q - fC w ro K d 6 t1) (a1 + fC w ro K d 6 t1) (up2 (up2 I1 81 s1 (nI t1)) 71 12 (nI (s1 + 1))) (up2 L1 71 13 ((L1 71 13) * (lN (mv w K ro 6 t1 d)))) (by omega) hfj hnj hq3 _ _ hW _ (lv_sub hl [8, 9, 10, 11, 3, 2, 0] rfl)
                          ·
                            refine lv_iload hx hb dX6_layWay_160 (lv_at hl 3 rfl) ?_
                            refine q_ine (tgt := 353) hx hb dX6_layWay_162 (by decide) (by first | omega | exact Nat.lt_of_le_of_lt (hw3 _) (by decide)) (fun c_162 => ?_) (fun c_162 => absurd c_162 (by decide))
                            refine lv_iload hx hb dX6_layWay_353 (lv_at hl 1 rfl) ?_
                            refine q_ic 4 hx hb dX6_layWay_355 (by decide) ?_
                            refine q_cge (tgt := 375) hx hb dX6_layWay_356 (by decide) (by first | omega | exact Nat.lt_of_le_of_lt (hw3 _) (by decide)) (by first | omega | exact Nat.lt_of_le_of_lt (hw3 _) (by decide)) (fun c_356 => ?_) (fun c_356 => ?_)
                            ·
                              refine q_ic 0 hx hb dX6_layWay_375 (by decide) ?_
                              refine lv_istore (lv' := [(6, .int (nI 0)), (10, .int (nI (t1 + 1))), (5, .int (nI (t1))), (4, .int (nI (nx t1 d))), (9, .int (nI 1)), (13, .int (nI (rtN w ro K d 6 t1))), (12, .int (nI ((7 * t1) + (nx t1 d)))), (11, .int (nI (mv w K ro 6 t1 d))), (0, .ref (ad 71)), (1, .int (nI (q0))), (2, .int (nI (q - fC w ro K d 6 t1))), (3, .int (nI (a1 + fC w ro K d 6 t1))), (7, .long (lN (fM w ro K d 6 6)))]) hx hb dX6_layWay_376 hl (by decide) rfl (fun ls hl => ?_)
                              have hnj := NJ_s hw hNJ hdK (show t1 < 6 by omega) hp1
                              have hbs := byN_s (w := w) (r := ro) hs18 hdK (show t1 < 6 by omega) hc hq2
                              have hfj := FJ_s (hbs ▸ hF) hs18
                              have hq3 : q - fC w ro K d 6 t1 < Cx' w K ro (K - nx t1 d) t1 := by have h8 := fC_s w ro K d 6 t1; rw [rt_p hp1] at h8; omega
                              have hen : bI (nx t1 d = K) = nI 0 := bI_f (by unfold nx; rw [if_neg (by omega)]; omega)
                              have hl : lv_has ls 14 [(6, .int (bI (nx t1 d = K))), (10, .int (nI (t1 + 1))), (5, .int (nI (t1))), (4, .int (nI (nx t1 d))), (9, .int (nI 1)), (13, .int (nI (rtN w ro K d 6 t1))), (12, .int (nI ((7 * t1) + (nx t1 d)))), (11, .int (nI (mv w K ro 6 t1 d))), (0, .ref (ad 71)), (1, .int (nI (q0))), (2, .int (nI (q - fC w ro K d 6 t1))), (3, .int (nI (a1 + fC w ro K d 6 t1))), (7, .long (lN (fM w ro K d 6 6)))] := by rw [hen]; exact hl
                              have hl : lv_has ls 14 [(6, .int (bI (nx t1 d = K))), (10, .int (nI (t1 + 1))), (5, .int (fr6 t1)), (4, .int (nI (nx t1 d))), (9, .int (nI 1)), (13, .int (nI (rtN w ro K d 6 t1))), (12, .int (nI ((7 * t1) + (nx t1 d)))), (11, .int (nI (mv w K ro 6 t1 d))), (0, .ref (ad 71)), (1, .int (nI (q0))), (2, .int (nI (q - fC w ro K d 6 t1))), (3, .int (nI (a1 + fC w ro K d 6 t1))), (7, .long (lN (fM w ro K d 6 6)))] := by rw [show fr6 t1 = nI t1 from if_neg (by omega)]; exact hl
                              refine lv_goto (tgt := 38) hx hb dX6_layWay_378 (by decide) ?_
                              exact ih_38 (s1 + 1) (nx t1 d) t1 (q - fC w ro K d 6 t1) (a1 + fC w ro K d 6 t1) (up2 (up2 I1 81 s1 (nI t1)) 71 12 (nI (s1 + 1))) (up2 L1 71 13 ((L1 71 13) * (lN (mv w K ro 6 t1 d)))) (by omega) hfj hnj hq3 _ _ hW _ (lv_sub hl [8, 9, 10, 11, 3, 2, 0] rfl)
                            ·
                              refine lv_iload hx hb dX6_layWay_359 (lv_at hl 2 rfl) ?_
                              refine lv_aload_n hx hb dX6_layWay_361 rfl (lv_at hl 7 rfl) ?_
                              refine g_6_0 (x := 71) (y := 72) hC hW (by omega) kd_71 gw_483 (hlk 71 0 72 (by omega) rfl) dX6_layWay_362 ?_
                              refine q_bp 58 hx hb dX6_layWay_365 (by decide) ?_
                              refine q_iald (x := 72) (i := 58) hC hW (by omega) kd_72 (by omega) dX6_layWay_367 ?_
                              refine q_top (v2 := .int (nI (K))) (congrArg _ (by rw [up2_ne (by decide), up2_ne (by decide)]; exact hN1.2.1)) ?_
                              refine q_cne (tgt := 375) hx hb dX6_layWay_368 (by decide) (by first | omega | exact Nat.lt_of_le_of_lt (hw3 _) (by decide)) (by first | omega | exact Nat.lt_of_le_of_lt (hw3 _) (by decide)) (fun c_368 => ?_) (fun c_368 => ?_)
                              ·
                                refine q_ic 0 hx hb dX6_layWay_375 (by decide) ?_
                                refine lv_istore (lv' := [(6, .int (nI 0)), (10, .int (nI (t1 + 1))), (5, .int (nI (t1))), (4, .int (nI (nx t1 d))), (9, .int (nI 1)), (13, .int (nI (rtN w ro K d 6 t1))), (12, .int (nI ((7 * t1) + (nx t1 d)))), (11, .int (nI (mv w K ro 6 t1 d))), (0, .ref (ad 71)), (1, .int (nI (q0))), (2, .int (nI (q - fC w ro K d 6 t1))), (3, .int (nI (a1 + fC w ro K d 6 t1))), (7, .long (lN (fM w ro K d 6 6)))]) hx hb dX6_layWay_376 hl (by decide) rfl (fun ls hl => ?_)
                                have hnj := NJ_s hw hNJ hdK (show t1 < 6 by omega) hp1
                                have hbs := byN_s (w := w) (r := ro) hs18 hdK (show t1 < 6 by omega) hc hq2
                                have hfj := FJ_s (hbs ▸ hF) hs18
                                have hq3 : q - fC w ro K d 6 t1 < Cx' w K ro (K - nx t1 d) t1 := by have h8 := fC_s w ro K d 6 t1; rw [rt_p hp1] at h8; omega
                                have hen : bI (nx t1 d = K) = nI 0 := bI_f (by omega)
                                have hl : lv_has ls 14 [(6, .int (bI (nx t1 d = K))), (10, .int (nI (t1 + 1))), (5, .int (nI (t1))), (4, .int (nI (nx t1 d))), (9, .int (nI 1)), (13, .int (nI (rtN w ro K d 6 t1))), (12, .int (nI ((7 * t1) + (nx t1 d)))), (11, .int (nI (mv w K ro 6 t1 d))), (0, .ref (ad 71)), (1, .int (nI (q0))), (2, .int (nI (q - fC w ro K d 6 t1))), (3, .int (nI (a1 + fC w ro K d 6 t1))), (7, .long (lN (fM w ro K d 6 6)))] := by rw [hen]; exact hl
                                have hl : lv_has ls 14 [(6, .int (bI (nx t1 d = K))), (10, .int (nI (t1 + 1))), (5, .int (fr6 t1)), (4, .int (nI (nx t1 d))), (9, .int (nI 1)), (13, .int (nI (rtN w ro K d 6 t1))), (12, .int (nI ((7 * t1) + (nx t1 d)))), (11, .int (nI (mv w K ro 6 t1 d))), (0, .ref (ad 71)), (1, .int (nI (q0))), (2, .int (nI (q - fC w ro K d 6 t1))), (3, .int (nI (a1 + fC w ro K d 6 t1))), (7, .long (lN (fM w ro K d 6 6)))] := by rw [show fr6 t1 = nI t1 from if_neg (by omega)]; exact hl
                                refine lv_goto (tgt := 38) hx hb dX6_layWay_378 (by decide) ?_
                                exact ih_38 (s1 + 1) (nx t1 d) t1 (q - fC w ro K d 6 t1) (a1 + fC w ro K d 6 t1) (up2 (up2 I1 81 s1 (nI t1)) 71 12 (nI (s1 + 1))) (up2 L1 71 13 ((L1 71 13) * (lN (mv w K ro 6 t1 d)))) (by omega) hfj hnj hq3 _ _ hW _ (lv_sub hl [8, 9, 10, 11, 3, 2, 0] rfl)
                              ·
                                refine q_ic 1 hx hb dX6_layWay_371 (by decide) ?_
                                refine lv_goto (tgt := 376) hx hb dX6_layWay_372 (by decide) ?_
                                refine lv_istore (lv' := [(6, .int (nI 1)), (10, .int (nI (t1 + 1))), (5, .int (nI (t1))), (4, .int (nI (nx t1 d))), (9, .int (nI 1)), (13, .int (nI (rtN w ro K d 6 t1))), (12, .int (nI ((7 * t1) + (nx t1 d)))), (11, .int (nI (mv w K ro 6 t1 d))), (0, .ref (ad 71)), (1, .int (nI (q0))), (2, .int (nI (q - fC w ro K d 6 t1))), (3, .int (nI (a1 + fC w ro K d 6 t1))), (7, .long (lN (fM w ro K d 6 6)))]) hx hb dX6_layWay_376 hl (by decide) rfl (fun ls hl => ?_)
                                have hnj := NJ_s hw hNJ hdK (show t1 < 6 by omega) hp1
                                have hbs := byN_s (w := w) (r := ro) hs18 hdK (show t1 < 6 by omega) hc hq2
                                have hfj := FJ_s (hbs ▸ hF) hs18
                                have hq3 : q - fC w ro K d 6 t1 < Cx' w K ro (K - nx t1 d) t1 := by have h8 := fC_s w ro K d 6 t1; rw [rt_p hp1] at h8; omega
                                have hen : bI (nx t1 d = K) = nI 1 := bI_t (by omega)
                                have hl : lv_has ls 14 [(6, .int (bI (nx t1 d = K))), (10, .int (nI (t1 + 1))), (5, .int (nI (t1))), (4, .int (nI (nx t1 d))), (9, .int (nI 1)), (13, .int (nI (rtN w ro K d 6 t1))), (12, .int (nI ((7 * t1) + (nx t1 d)))), (11, .int (nI (mv w K ro 6 t1 d))), (0, .ref (ad 71)), (1, .int (nI (q0))), (2, .int (nI (q - fC w ro K d 6 t1))), (3, .int (nI (a1 + fC w ro K d 6 t1))), (7, .long (lN (fM w ro K d 6 6)))] := by rw [hen]; exact hl
                                have hl : lv_has ls 14 [(6, .int (bI (nx t1 d = K))), (10, .int (nI (t1 + 1))), (5, .int (fr6 t1)), (4, .int (nI (nx t1 d))), (9, .int (nI 1)), (13, .int (nI (rtN w ro K d 6 t1))), (12, .int (nI ((7 * t1) + (nx t1 d)))), (11, .int (nI (mv w K ro 6 t1 d))), (0, .ref (ad 71)), (1, .int (nI (q0))), (2, .int (nI (q - fC w ro K d 6 t1))), (3, .int (nI (a1 + fC w ro K d 6 t1))), (7, .long (lN (fM w ro K d 6 6)))] := by rw [show fr6 t1 = nI t1 from if_neg (by omega)]; exact hl
                                refine lv_goto (tgt := 38) hx hb dX6_layWay_378 (by decide) ?_
                                exact ih_38 (s1 + 1) (nx t1 d) t1 (q - fC w ro K d 6 t1) (a1 + fC w ro K d 6 t1) (up2 (up2 I1 81 s1 (nI t1)) 71 12 (nI (s1 + 1))) (up2 L1 71 13 ((L1 71 13) * (lN (mv w K ro 6 t1 d)))) (by omega) hfj hnj hq3 _ _ hW _ (lv_sub hl [8, 9, 10, 11, 3, 2, 0] rfl)
                  exact lp_153 (6 + 1) 0 (by omega) (by omega) (Nat.zero_le _) _ _ hW _ (lv_sub hl [2, 3, 4, 5, 6, 7, 8, 1, 0] rfl)
                ·
                  refine lv_aload_n hx hb dX6_layWay_56 rfl (lv_at hl 0 rfl) ?_
                  refine lv_iload hx hb dX6_layWay_57 (lv_at hl 5 rfl) ?_
                  refine lv_if_ge (tgt := 72) hx hb dX6_layWay_59 (by decide) (fun c_59 => absurd c_59 (by decide)) (fun c_59 => ?_)
                  refine lv_aload_n hx hb dX6_layWay_62 rfl (lv_at hl 0 rfl) ?_
                  refine g_6_0 (x := 71) (y := 72) hC hW (by omega) kd_71 gw_483 (hlk 71 0 72 (by omega) rfl) dX6_layWay_63 ?_
                  refine lv_iload hx hb dX6_layWay_66 (lv_at hl 7 rfl) ?_
                  refine q_iald (x := 72) (i := t1) hC hW (by omega) kd_72 (by omega) dX6_layWay_68 ?_
                  refine q_top (v2 := .int (nI (w (6 * 6 + t1)))) (congrArg _ ((hN1.1 _ (by omega)).trans (congrArg nI (rwt_b w (by omega))))) ?_
                  refine lv_goto (tgt := 80) hx hb dX6_layWay_69 (by decide) ?_
                  refine lv_iload hx hb dX6_layWay_80 (lv_at hl 7 rfl) ?_
                  refine lv_iload hx hb dX6_layWay_82 (lv_at hl 4 rfl) ?_
                  refine q_kI0 (q_rV (As := [.int (nI (w (6 * 6 + t1))), .int (nI (t1)), .int (nI (d))]) (rest := []) (x := 71) hC hW mw_X6_going gw_590 (k_going l G n ad H.size I1 L1 R _ _ _ (hw3 _) (by omega) (by omega) w K ro hn hlk hN1) (by omega) (ct_o6 kd_71) rfl ⟨rfl, rfl⟩ ⟨Nat.le_of_ble_eq_true rfl, Nat.le_of_ble_eq_true rfl⟩ ⟨(Nat.le_of_ble_eq_true rfl), (Nat.le_of_ble_eq_true rfl)⟩ hl.1 rfl rfl (Nat.le_of_ble_eq_true rfl) dX6_layWay_84) hW (fun r_84 H locs hp hW => ?_)
                  subst hp
                  refine q_top (v2 := .int (nI (mv w K ro 6 t1 d))) rfl ?_
                  have hm9 := mv_le hw K ro 6 t1 d
                  refine q_i2l hx hb dX6_layWay_87 (by first | omega | exact Nat.lt_of_le_of_lt (hw3 _) (by decide)) ?_
                  refine lv_lstore (lv' := [(10, .long (lN (mv w K ro 6 t1 d))), (0, .ref (ad 71)), (1, .int (nI (q0))), (2, .int (nI (q))), (3, .int (nI (a1))), (4, .int (nI (d))), (5, .int (-6)), (7, .long (lN (fM w ro K d 6 t1))), (9, .int (nI (t1)))]) hx hb dX6_layWay_88 hl (by decide) rfl (fun ls hl => ?_)
                  refine lv_lload hx hb dX6_layWay_90 (lv_at hl 0 rfl) ?_
                  refine q_lc 0 hx hb dX6_layWay_92 (by decide) ?_
                  refine q_lcmp hx hb dX6_layWay_93 ?_
                  refine q_lle (tgt := 121) hx hb dX6_layWay_94 (by decide) (by first | decide | omega | assumption) (by first | decide | omega | assumption) (fun c_94 => ?_) (fun c_94 => ?_)
                  ·
                    have hz1 : mv w K ro 6 t1 d = 0 := by omega
                    refine q_lc 0 hx hb dX6_layWay_121 (by decide) ?_
                    refine lv_lstore (lv' := [(12, .long (lN 0)), (10, .long (lN (mv w K ro 6 t1 d))), (0, .ref (ad 71)), (1, .int (nI (q0))), (2, .int (nI (q))), (3, .int (nI (a1))), (4, .int (nI (d))), (5, .int (-6)), (7, .long (lN (fM w ro K d 6 t1))), (9, .int (nI (t1)))]) hx hb dX6_layWay_122 hl (by decide) rfl (fun ls hl => ?_)
                    refine lv_lload hx hb dX6_layWay_124 (lv_at hl 0 rfl) ?_
                    refine lv_lload hx hb dX6_layWay_126 (lv_at hl 8 rfl) ?_
                    refine q_lcmp hx hb dX6_layWay_128 ?_
                    refine q_lle (tgt := 137) hx hb dX6_layWay_129 (by decide) (by decide) (Nat.lt_of_le_of_lt (fM_b hw (r := ro) K d 6 t1 hk6) (by decide)) (fun c_129 => ?_) (fun c_129 => ?_)
                    ·
                      refine lv_lload hx hb dX6_layWay_137 (lv_at hl 8 rfl) ?_
                      refine q_top (v2 := .long (lN (fM w ro K d 6 (t1 + 1)))) (congrArg (fun z => Value.long (lN z)) (show fM w ro K d 6 t1 = fM w ro K d 6 (t1 + 1) from by have h9 := fM_n (w := w) (r := ro) (K := K) (d := d) (f := 6) (i := t1) hz1; omega)) ?_
                      refine lv_lstore (lv' := [(7, .long (lN (fM w ro K d 6 (t1 + 1)))), (12, .long (lN 0)), (10, .long (lN (mv w K ro 6 t1 d))), (0, .ref (ad 71)), (1, .int (nI (q0))), (2, .int (nI (q))), (3, .int (nI (a1))), (4, .int (nI (d))), (5, .int (-6)), (9, .int (nI (t1)))]) hx hb dX6_layWay_139 hl (by decide) rfl (fun ls hl => ?_)
                      refine q_iinc (z2 := t1 + 1) (lv' := [(9, .int (nI (t1 + 1))), (7, .long (lN (fM w ro K d 6 (t1 + 1)))), (12, .long (lN 0)), (10, .long (lN (mv w K ro 6 t1 d))), (0, .ref (ad 71)), (1, .int (nI (q0))), (2, .int (nI (q))), (3, .int (nI (a1))), (4, .int (nI (d))), (5, .int (-6))]) hx hb dX6_layWay_141 hl (k := 9) rfl (inc_up _ 1 (by decide)) (by decide) rfl (fun ls hl => ?_)
                      refine lv_goto (tgt := 49) hx hb dX6_layWay_144 (by decide) ?_
                      exact ih_49 (t1 + 1) (by omega) (by omega) _ _ hW _ (lv_sub hl [4, 5, 6, 7, 8, 9, 1, 0] rfl)
                    ·
                      refine lv_lload hx hb dX6_layWay_132 (lv_at hl 0 rfl) ?_
                      refine lv_goto (tgt := 139) hx hb dX6_layWay_134 (by decide) ?_
                      refine q_top (v2 := .long (lN (fM w ro K d 6 (t1 + 1)))) (congrArg (fun z => Value.long (lN z)) (show 0 = fM w ro K d 6 (t1 + 1) from by have h9 := fM_n (w := w) (r := ro) (K := K) (d := d) (f := 6) (i := t1) hz1; omega)) ?_
                      refine lv_lstore (lv' := [(7, .long (lN (fM w ro K d 6 (t1 + 1)))), (12, .long (lN 0)), (10, .long (lN (mv w K ro 6 t1 d))), (0, .ref (ad 71)), (1, .int (nI (q0))), (2, .int (nI (q))), (3, .int (nI (a1))), (4, .int (nI (d))), (5, .int (-6)), (9, .int (nI (t1)))]) hx hb dX6_layWay_139 hl (by decide) rfl (fun ls hl => ?_)
                      refine q_iinc (z2 := t1 + 1) (lv' := [(9, .int (nI (t1 + 1))), (7, .long (lN (fM w ro K d 6 (t1 + 1)))), (12, .long (lN 0)), (10, .long (lN (mv w K ro 6 t1 d))), (0, .ref (ad 71)), (1, .int (nI (q0))), (2, .int (nI (q))), (3, .int (nI (a1))), (4, .int (nI (d))), (5, .int (-6))]) hx hb dX6_layWay_141 hl (k := 9) rfl (inc_up _ 1 (by decide)) (by decide) rfl (fun ls hl => ?_)
                      refine lv_goto (tgt := 49) hx hb dX6_layWay_144 (by decide) ?_
                      exact ih_49 (t1 + 1) (by omega) (by omega) _ _ hW _ (lv_sub hl [4, 5, 6, 7, 8, 9, 1, 0] rfl)
                  ·
                    have hp1 : 0 < mv w K ro 6 t1 d := by omega
                    have hnx : nx t1 d ≤ K := nx_K2 hp1 (by omega)
                    have hmb := mM_lt hw (r := ro) K d 6 t1 hk6
                    refine lv_lload hx hb dX6_layWay_97 (lv_at hl 0 rfl) ?_
                    refine lv_aload_n hx hb dX6_layWay_99 rfl (lv_at hl 1 rfl) ?_
                    refine g_6_10 (x := 71) (y := 80) hC hW (by omega) kd_71 gw_493 (hlk 71 10 80 (by omega) rfl) dX6_layWay_100 ?_
                    refine q_bp 7 hx hb dX6_layWay_103 (by decide) ?_
                    refine lv_iload hx hb dX6_layWay_105 (lv_at hl 8 rfl) ?_
                    refine q_imul hx hb dX6_layWay_107 ?_
                    refine lv_iload hx hb dX6_layWay_108 (lv_at hl 8 rfl) ?_
                    refine lv_iload hx hb dX6_layWay_110 (lv_at hl 5 rfl) ?_
                    refine q_kI0 (q_rS (As := [.int (nI (t1)), .int (nI (d))]) (rest := [.int (nI (7 * t1)), .ref (ad 80), .long (lN (mv w K ro 6 t1 d))]) hC hW mw_X6_toldThen gw_598 (k_toldThen l G n ad H.size I1 L1 R _ _ (by omega) (by omega)) ⟨rfl, rfl⟩ ⟨Nat.le_of_ble_eq_true rfl, Nat.le_of_ble_eq_true rfl⟩ ⟨(Nat.le_of_ble_eq_true rfl), (Nat.le_of_ble_eq_true rfl)⟩ hl.1 rfl rfl (Nat.le_of_ble_eq_true rfl) dX6_layWay_112) hW (fun r_112 H locs hp hW => ?_)
                    subst hp
                    refine q_iadd hx hb dX6_layWay_115 ?_
                    refine q_lald (x := 80) (i := (7 * t1) + (nx t1 d)) hC hW (by omega) kd_80 (by omega) dX6_layWay_116 ?_
                    refine q_top (v2 := .long (lN (Mx' w K ro (K - (nx t1 d)) t1))) (congrArg _ (hB1 (nx t1 d) t1 (by omega) hnx (by omega)).2.1) ?_
                    refine q_lmul hx hb dX6_layWay_117 ?_
                    refine lv_goto (tgt := 122) hx hb dX6_layWay_118 (by decide) ?_
                    refine lv_lstore (lv' := [(12, .long (lN ((mv w K ro 6 t1 d) * (Mx' w K ro (K - (nx t1 d)) t1)))), (10, .long (lN (mv w K ro 6 t1 d))), (0, .ref (ad 71)), (1, .int (nI (q0))), (2, .int (nI (q))), (3, .int (nI (a1))), (4, .int (nI (d))), (5, .int (-6)), (7, .long (lN (fM w ro K d 6 t1))), (9, .int (nI (t1)))]) hx hb dX6_layWay_122 hl (by decide) rfl (fun ls hl => ?_)
                    refine lv_lload hx hb dX6_layWay_124 (lv_at hl 0 rfl) ?_
                    refine lv_lload hx hb dX6_layWay_126 (lv_at hl 8 rfl) ?_
                    refine q_lcmp hx hb dX6_layWay_128 ?_
                    refine q_lle (tgt := 137) hx hb dX6_layWay_129 (by decide) hmb (Nat.lt_of_le_of_lt (fM_b hw (r := ro) K d 6 t1 hk6) (by decide)) (fun c_129 => ?_) (fun c_129 => ?_)
                    ·
                      refine lv_lload hx hb dX6_layWay_137 (lv_at hl 8 rfl) ?_
                      refine q_top (v2 := .long (lN (fM w ro K d 6 (t1 + 1)))) (congrArg (fun z => Value.long (lN z)) (show fM w ro K d 6 t1 = fM w ro K d 6 (t1 + 1) from by have h9 := fM_p (w := w) (r := ro) (K := K) (d := d) (f := 6) (i := t1) hp1; omega)) ?_
                      refine lv_lstore (lv' := [(7, .long (lN (fM w ro K d 6 (t1 + 1)))), (12, .long (lN ((mv w K ro 6 t1 d) * (Mx' w K ro (K - (nx t1 d)) t1)))), (10, .long (lN (mv w K ro 6 t1 d))), (0, .ref (ad 71)), (1, .int (nI (q0))), (2, .int (nI (q))), (3, .int (nI (a1))), (4, .int (nI (d))), (5, .int (-6)), (9, .int (nI (t1)))]) hx hb dX6_layWay_139 hl (by decide) rfl (fun ls hl => ?_)
                      refine q_iinc (z2 := t1 + 1) (lv' := [(9, .int (nI (t1 + 1))), (7, .long (lN (fM w ro K d 6 (t1 + 1)))), (12, .long (lN ((mv w K ro 6 t1 d) * (Mx' w K ro (K - (nx t1 d)) t1)))), (10, .long (lN (mv w K ro 6 t1 d))), (0, .ref (ad 71)), (1, .int (nI (q0))), (2, .int (nI (q))), (3, .int (nI (a1))), (4, .int (nI (d))), (5, .int (-6))]) hx hb dX6_layWay_141 hl (k := 9) rfl (inc_up _ 1 (by decide)) (by decide) rfl (fun ls hl => ?_)
                      refine lv_goto (tgt := 49) hx hb dX6_layWay_144 (by decide) ?_
                      exact ih_49 (t1 + 1) (by omega) (by omega) _ _ hW _ (lv_sub hl [4, 5, 6, 7, 8, 9, 1, 0] rfl)
                    ·
                      refine lv_lload hx hb dX6_layWay_132 (lv_at hl 0 rfl) ?_
                      refine lv_goto (tgt := 139) hx hb dX6_layWay_134 (by decide) ?_
                      refine q_top (v2 := .long (lN (fM w ro K d 6 (t1 + 1)))) (congrArg (fun z => Value.long (lN z)) (show (mv w K ro 6 t1 d) * (Mx' w K ro (K - (nx t1 d)) t1) = fM w ro K d 6 (t1 + 1) from by have h9 := fM_p (w := w) (r := ro) (K := K) (d := d) (f := 6) (i := t1) hp1; omega)) ?_
                      refine lv_lstore (lv' := [(7, .long (lN (fM w ro K d 6 (t1 + 1)))), (12, .long (lN ((mv w K ro 6 t1 d) * (Mx' w K ro (K - (nx t1 d)) t1)))), (10, .long (lN (mv w K ro 6 t1 d))), (0, .ref (ad 71)), (1, .int (nI (q0))), (2, .int (nI (q))), (3, .int (nI (a1))), (4, .int (nI (d))), (5, .int (-6)), (9, .int (nI (t1)))]) hx hb dX6_layWay_139 hl (by decide) rfl (fun ls hl => ?_)
                      refine q_iinc (z2 := t1 + 1) (lv' := [(9, .int (nI (t1 + 1))), (7, .long (lN (fM w ro K d 6 (t1 + 1)))), (12, .long (lN ((mv w K ro 6 t1 d) * (Mx' w K ro (K - (nx t1 d)) t1)))), (10, .long (lN (mv w K ro 6 t1 d))), (0, .ref (ad 71)), (1, .int (nI (q0))), (2, .int (nI (q))), (3, .int (nI (a1))), (4, .int (nI (d))), (5, .int (-6))]) hx hb dX6_layWay_141 hl (k := 9) rfl (inc_up _ 1 (by decide)) (by decide) rfl (fun ls hl => ?_)
                      refine lv_goto (tgt := 49) hx hb dX6_layWay_144 (by decide) ?_
                      exact ih_49 (t1 + 1) (by omega) (by omega) _ _ hW _ (lv_sub hl [4, 5, 6, 7, 8, 9, 1, 0] rfl)
            exact lp_49 (6 + 1) 0 (by omega) (by omega) _ _ hW _ (lv_sub hl [2, 3, 4, 5, 6, 7, 1, 0] rfl)
    exact lp_38 (18 + 1) 0 0 6 q0 0 (up2 I 71 12 (nI 0)) (up2 L 71 13 (lN 1)) (by omega) (FJ_0 (by rw [up2_at, if_pos ⟨rfl, rfl⟩]) (by rw [up2_at, if_pos ⟨rfl, rfl⟩]) (fun a h1 _ => up2_ne h1) (fun j hj => by rw [up2_at, if_neg (fun q9 => hj q9.2)]) (fun a ha => up2_ne ha)) (NJ_0 K) hq0 _ _ hW _ (lv_sub hl [5, 6, 4, 3, 2, 1, 0] rfl)
set_option maxRecDepth 100000 in
set_option maxHeartbeats 4000000 in
theorem k_layWayM (l : Launch) (G : Gx) (n : Nat) (ad : Nat → Nat) (sz : Nat) (I : Ic) (L : Lc) (R : Rc)  (w : Nat → Nat) (K : Nat) (ro : Nat → Nat) (hn : 83 ≤ n) (hlk : LkOK n R) (hN : NwI (I 72) w K ro) (hBh : BhI w ro K I L 0) (hC0 : 0 < Cx' w K ro K 6) : Met l yX6_layWay (Cond.code yX6_layWay cX6_layWay 14 (some .int) :: GW) ({ frames := 2, cells := 0, slots := 0, locals := 72 } : Room) (qPre G n ad sz I L R [.ref (ad 71), .int (-6)]) (qI1 G (qA n ad sz) n ad R (fun z I1 L1 => z = nI (rkN w ro K 0 6 (wayM w ro K)) ∧ FoB (wayM w ro K) (prN w ro K 0 6 (wayM w ro K)) I1 L1 ∧ (∀ a, a ≠ 71 → a ≠ 81 → I1 a = I a) ∧ (∀ j, j ≠ 12 → I1 71 j = I 71 j) ∧ (∀ a, a ≠ 71 → L1 a = L a))) 0 0 (qA n ad sz) := by
  refine q_met (by decide) (Nat.le_of_ble_eq_true rfl) ?_
  intro p_ e_ s m_ below meth c_ hC hr hlk0 hin hsz hW ls hl
  subst hsz
  have hC : CallFix p_ m_ c_ cX6_layWay 14 s ([.ref (ad 71), .int (-6)] : List Value).toArray GW "CoinRowsModel" := hC
  have hx := hC.1
  have hb := hC.2.1
  have hk6 : K ≤ 6 := hN.2.2.2.1
  have hw : Wok w := hN.2.2.2.2.1
  have hw3 : ∀ i, w i ≤ 3 := hw.1
  have hr4 : ∀ j, ro j < 4 := hN.2.2.2.2.2
  have hC6 := Cx_b hw (r := ro) K K 6 hk6
  have hl : lv_has ls 14 [(0, .ref (ad 71)), (1, .int (-6))] := hl
  refine lv_iload_n hx hb dX6_layWay_0 rfl (lv_at hl 1 rfl) ?_
  refine lv_istore_n (lv' := [(2, .int (-6)), (0, .ref (ad 71)), (1, .int (-6))]) hx hb dX6_layWay_1 rfl hl (by decide) rfl (fun ls hl => ?_)
  refine q_ic 0 hx hb dX6_layWay_2 (by decide) ?_
  refine lv_istore_n (lv' := [(3, .int (nI 0)), (2, .int (-6)), (0, .ref (ad 71)), (1, .int (-6))]) hx hb dX6_layWay_3 rfl hl (by decide) rfl (fun ls hl => ?_)
  refine q_ic 0 hx hb dX6_layWay_4 (by decide) ?_
  refine lv_istore (lv' := [(4, .int (nI 0)), (3, .int (nI 0)), (2, .int (-6)), (0, .ref (ad 71)), (1, .int (-6))]) hx hb dX6_layWay_5 hl (by decide) rfl (fun ls hl => ?_)
  refine lv_bipush (v := -6) hx hb dX6_layWay_7 (by decide) ?_
  refine q_top (v2 := .int (fr6 6)) rfl ?_
  refine lv_istore (lv' := [(5, .int (fr6 6)), (4, .int (nI 0)), (3, .int (nI 0)), (2, .int (-6)), (0, .ref (ad 71)), (1, .int (-6))]) hx hb dX6_layWay_9 hl (by decide) rfl (fun ls hl => ?_)
  refine lv_aload_n hx hb dX6_layWay_11 rfl (lv_at hl 4 rfl) ?_
  refine q_ic 0 hx hb dX6_layWay_12 (by decide) ?_
  refine p_6_12 (x := 71) (v := nI 0) hC hW (by omega) kd_71 gw_495 dX6_layWay_13 (fun H locs hW => ?_)
  refine lv_aload_n hx hb dX6_layWay_16 rfl (lv_at hl 4 rfl) ?_
  refine q_lc 1 hx hb dX6_layWay_17 (by decide) ?_
  refine p_6_13 (x := 71) (v := lN 1) hC hW (by omega) kd_71 gw_496 dX6_layWay_18 (fun H locs hW => ?_)
  refine lv_aload_n hx hb dX6_layWay_21 rfl (lv_at hl 4 rfl) ?_
  refine g_6_0 (x := 71) (y := 72) hC hW (by omega) kd_71 gw_483 (hlk 71 0 72 (by omega) rfl) dX6_layWay_22 ?_
  refine q_bp 58 hx hb dX6_layWay_25 (by decide) ?_
  refine q_iald (x := 72) (i := 58) hC hW (by omega) kd_72 (by omega) dX6_layWay_27 ?_
  refine q_top (v2 := .int (nI (K))) (congrArg _ (by rw [up2_ne (by decide)]; exact hN.2.1)) ?_
  refine q_ine (tgt := 35) hx hb dX6_layWay_28 (by decide) (by first | omega | exact Nat.lt_of_le_of_lt (hw3 _) (by decide)) (fun c_28 => ?_) (fun c_28 => ?_)
  ·
    refine q_ic 0 hx hb dX6_layWay_35 (by decide) ?_
    refine q_top (v2 := .int (bI (0 = K))) (congrArg Value.int (bI_f (p := 0 = K) (by omega)).symm) ?_
    refine lv_istore (lv' := [(6, .int (bI (0 = K))), (5, .int (fr6 6)), (4, .int (nI 0)), (3, .int (nI 0)), (2, .int (-6)), (0, .ref (ad 71)), (1, .int (-6))]) hx hb dX6_layWay_36 hl (by decide) rfl (fun ls hl => ?_)
    have lp_38 : ∀ (fu_38 : Nat) (s1 : Nat) (d : Nat) (f : Nat) (x2 : Int32) (a1 : Nat) (I1 : Ic) (L1 : Lc), 18 - s1 < fu_38 → (FJ w ro K (wayM w ro K) (byM w ro K (19 - s1) d f) I L s1 d f I1 L1) → (NJ K s1 d f) → (a1 + rkN w ro K d f (byM w ro K (19 - s1) d f) = rkN w ro K 0 6 (wayM w ro K) ∧ 0 < Cx' w K ro (K - d) f) → ∀ (H : Heap) (locs : List Loc), Wd G n ad I1 L1 R (qA n ad s.heap.size) s.heap H locs s → ∀ ls : Array Slot, lv_has ls 14 [(0, .ref (ad 71)), (1, .int (-6)), (2, .int (x2)), (3, .int (nI (a1))), (4, .int (nI (d))), (5, .int (fr6 f)), (6, .int (bI (d = K)))] → W p_ l e_ ({ frames := 2, cells := 0, slots := 0, locals := 72 } : Room) s m_ ([.ref (ad 71), .int (-6)] : List Value).toArray below meth c_ H locs 0 0 (MQ below (qI1 G (qA n ad s.heap.size) n ad R (fun z I1 L1 => z = nI (rkN w ro K 0 6 (wayM w ro K)) ∧ FoB (wayM w ro K) (prN w ro K 0 6 (wayM w ro K)) I1 L1 ∧ (∀ a, a ≠ 71 → a ≠ 81 → I1 a = I a) ∧ (∀ j, j ≠ 12 → I1 71 j = I 71 j) ∧ (∀ a, a ≠ 71 → L1 a = L a))) ([.ref (ad 71), .int (-6)] : List Value).toArray s 0 0 (qA n ad s.heap.size)) (F0 m_ 38 ls []) := by
      intro fu_38
      induction fu_38 with
      | zero =>
        intro s1 d f x2 a1 I1 L1 hm; exact absurd hm (Nat.not_lt_zero _)
      | succ fu_38 ih_38 =>
        intro s1 d f x2 a1 I1 L1 hm_38 hF hNJ hGI H locs hW ls hl
        have hN1 : NwI (I1 72) w K ro := by rw [hF.2.2.1 72 (by decide) (by decide)]; exact hN
        have hB1 : BhI w ro K I1 L1 0 := Bh_g hBh (hF.2.2.1 79 (by decide) (by decide)) (hF.2.2.2.2 78 (by decide)) (hF.2.2.2.2 80 (by decide))
        rcases Nat.lt_or_ge f 6 with hf6 | hf6
        ·
          rw [show fr6 f = nI f from if_neg (by omega)] at hl
          refine lv_iload hx hb dX6_layWay_38 (lv_at hl 6 rfl) ?_
          refine lv_if_ne (tgt := 381) hx hb dX6_layWay_40 (by decide) (fun c_40 => ?_) (fun c_40 => ?_)
          ·
            have hdK : d = K := bI_1 (p := d = K) c_40
            refine lv_iload_n hx hb dX6_layWay_381 rfl (lv_at hl 3 rfl) ?_
            exact q_iret1 hC hW hr hlk0 ⟨congrArg nI (by rw [← hGI.1, byM_e (show K ≤ d by omega)]; rfl), FJ_e hF (byM_e (by omega)) (by have h9 := hNJ.1; omega), hF.2.2.1, hF.2.2.2.1, hF.2.2.2.2⟩ dX6_layWay_382
          ·
            have hdn : ¬ d = K := bI_0 (p := d = K) c_40
            have hdK : d < K := by have h9 := hNJ.2.1; omega
            have hs18 : s1 < 18 := NJ_lt hNJ hk6 hdK
            have hMf : fM w ro K d f 6 = Mx' w K ro (K - d) f := (Mx_f hw K d f hdK).symm
            have hCf : Cx' w K ro (K - d) f = fC w ro K d f 6 := Cx_f hw K d f hdK
            have hCb := Cx_b hw (r := ro) K (K - d) f (by omega)
            refine q_lc 0 hx hb dX6_layWay_43 (by decide) ?_
            refine lv_lstore (lv' := [(7, .long (lN 0)), (0, .ref (ad 71)), (1, .int (-6)), (2, .int (x2)), (3, .int (nI (a1))), (4, .int (nI (d))), (5, .int (nI (f))), (6, .int (bI (d = K)))]) hx hb dX6_layWay_44 hl (by decide) rfl (fun ls hl => ?_)
            refine q_ic 0 hx hb dX6_layWay_46 (by decide) ?_
            refine lv_istore (lv' := [(9, .int (nI 0)), (7, .long (lN 0)), (0, .ref (ad 71)), (1, .int (-6)), (2, .int (x2)), (3, .int (nI (a1))), (4, .int (nI (d))), (5, .int (nI (f))), (6, .int (bI (d = K)))]) hx hb dX6_layWay_47 hl (by decide) rfl (fun ls hl => ?_)
            have lp_49 : ∀ (fu_49 : Nat) (t1 : Nat), 6 - t1 < fu_49 → (t1 ≤ 6) → ∀ (H : Heap) (locs : List Loc), Wd G n ad I1 L1 R (qA n ad s.heap.size) s.heap H locs s → ∀ ls : Array Slot, lv_has ls 14 [(0, .ref (ad 71)), (1, .int (-6)), (2, .int (x2)), (3, .int (nI (a1))), (4, .int (nI (d))), (5, .int (nI (f))), (7, .long (lN (fM w ro K d f t1))), (9, .int (nI (t1)))] → W p_ l e_ ({ frames := 2, cells := 0, slots := 0, locals := 72 } : Room) s m_ ([.ref (ad 71), .int (-6)] : List Value).toArray below meth c_ H locs 0 0 (MQ below (qI1 G (qA n ad s.heap.size) n ad R (fun z I1 L1 => z = nI (rkN w ro K 0 6 (wayM w ro K)) ∧ FoB (wayM w ro K) (prN w ro K 0 6 (wayM w ro K)) I1 L1 ∧ (∀ a, a ≠ 71 → a ≠ 81 → I1 a = I a) ∧ (∀ j, j ≠ 12 → I1 71 j = I 71 j) ∧ (∀ a, a ≠ 71 → L1 a = L a))) ([.ref (ad 71), .int (-6)] : List Value).toArray s 0 0 (qA n ad s.heap.size)) (F0 m_ 49 ls []) := by
              intro fu_49
              induction fu_49 with
              | zero =>
                intro t1 hm; exact absurd hm (Nat.not_lt_zero _)
              | succ fu_49 ih_49 =>
                intro t1 hm_49 ht6 H locs hW ls hl
                refine lv_iload hx hb dX6_layWay_49 (lv_at hl 7 rfl) ?_
                refine q_bp 6 hx hb dX6_layWay_51 (by decide) ?_
                refine q_cge (tgt := 147) hx hb dX6_layWay_53 (by decide) (by first | omega | exact Nat.lt_of_le_of_lt (hw3 _) (by decide)) (by first | omega | exact Nat.lt_of_le_of_lt (hw3 _) (by decide)) (fun c_53 => ?_) (fun c_53 => ?_)
                ·
                  have e6 : t1 = 6 := by omega
                  subst e6
                  refine q_ic 0 hx hb dX6_layWay_147 (by decide) ?_
                  refine lv_istore (lv' := [(9, .int (nI 0)), (0, .ref (ad 71)), (1, .int (-6)), (2, .int (x2)), (3, .int (nI (a1))), (4, .int (nI (d))), (5, .int (nI (f))), (7, .long (lN (fM w ro K d f 6)))]) hx hb dX6_layWay_148 hl (by decide) rfl (fun ls hl => ?_)
                  refine q_ic 0 hx hb dX6_layWay_150 (by decide) ?_
                  refine lv_istore (lv' := [(10, .int (nI 0)), (9, .int (nI 0)), (0, .ref (ad 71)), (1, .int (-6)), (2, .int (x2)), (3, .int (nI (a1))), (4, .int (nI (d))), (5, .int (nI (f))), (7, .long (lN (fM w ro K d f 6)))]) hx hb dX6_layWay_151 hl (by decide) rfl (fun ls hl => ?_)
                  have lp_153 : ∀ (fu_153 : Nat) (t1 : Nat) (x3 : Int32), 6 - t1 < fu_153 → (t1 ≤ 6) → (∀ i, i < t1 → ¬ okM w ro K d f i = true) → ∀ (H : Heap) (locs : List Loc), Wd G n ad I1 L1 R (qA n ad s.heap.size) s.heap H locs s → ∀ ls : Array Slot, lv_has ls 14 [(0, .ref (ad 71)), (1, .int (-6)), (2, .int (x3)), (3, .int (nI (a1 + fC w ro K d f t1))), (4, .int (nI (d))), (5, .int (nI (f))), (7, .long (lN (fM w ro K d f 6))), (9, .int (nI 0)), (10, .int (nI (t1)))] → W p_ l e_ ({ frames := 2, cells := 0, slots := 0, locals := 72 } : Room) s m_ ([.ref (ad 71), .int (-6)] : List Value).toArray below meth c_ H locs 0 0 (MQ below (qI1 G (qA n ad s.heap.size) n ad R (fun z I1 L1 => z = nI (rkN w ro K 0 6 (wayM w ro K)) ∧ FoB (wayM w ro K) (prN w ro K 0 6 (wayM w ro K)) I1 L1 ∧ (∀ a, a ≠ 71 → a ≠ 81 → I1 a = I a) ∧ (∀ j, j ≠ 12 → I1 71 j = I 71 j) ∧ (∀ a, a ≠ 71 → L1 a = L a))) ([.ref (ad 71), .int (-6)] : List Value).toArray s 0 0 (qA n ad s.heap.size)) (F0 m_ 153 ls []) := by
                    intro fu_153
                    induction fu_153 with
                    | zero =>
                      intro t1 x3 hm; exact absurd hm (Nat.not_lt_zero _)
                    | succ fu_153 ih_153 =>
                      intro t1 x3 hm_153 ht6 hno H locs hW ls hl
                      refine lv_iload hx hb dX6_layWay_153 (lv_at hl 8 rfl) ?_
                      refine q_bp 6 hx hb dX6_layWay_155 (by decide) ?_
                      refine q_cge (tgt := 353) hx hb dX6_layWay_157 (by decide) (by first | omega | exact Nat.lt_of_le_of_lt (hw3 _) (by decide)) (by first | omega | exact Nat.lt_of_le_of_lt (hw3 _) (by decide)) (fun c_157 => absurd (chM_ok hw hdK hGI.2) (hno _ (by have h9 := chM_lt w ro K d f; omega))) (fun c_157 => ?_)
                      refine lv_iload hx hb dX6_layWay_160 (lv_at hl 7 rfl) ?_
                      refine q_ine (tgt := 353) hx hb dX6_layWay_162 (by decide) (by first | omega | exact Nat.lt_of_le_of_lt (hw3 _) (by decide)) (fun c_162 => absurd c_162 (by decide)) (fun c_162 => ?_)
                      refine lv_aload_n hx hb dX6_layWay_165 rfl (lv_at hl 0 rfl) ?_
                      refine lv_iload hx hb dX6_layWay_166 (lv_at hl 5 rfl) ?_
                      refine lv_if_ge (tgt := 181) hx hb dX6_layWay_168 (by decide) (fun c_168 => ?_) (fun c_168 => absurd (Int32.not_lt.mp (nI_pos (by omega))) c_168)
                      refine lv_aload_n hx hb dX6_layWay_181 rfl (lv_at hl 0 rfl) ?_
                      refine lv_iload hx hb dX6_layWay_182 (lv_at hl 5 rfl) ?_
                      refine lv_iload hx hb dX6_layWay_184 (lv_at hl 8 rfl) ?_
                      refine q_kI0 (q_rV (As := [.int (nI (f)), .int (nI (t1))]) (rest := [.ref (ad 71)]) (x := 71) hC hW mw_X6_step gw_586 (k_step l G n ad H.size I1 L1 R _ _ (by omega) (by omega) w K ro hn hlk hN1) (by omega) (ct_o6 kd_71) rfl ⟨rfl, rfl⟩ ⟨Nat.le_of_ble_eq_true rfl, Nat.le_of_ble_eq_true rfl⟩ ⟨(Nat.le_of_ble_eq_true rfl), (Nat.le_of_ble_eq_true rfl)⟩ hl.1 rfl rfl (Nat.le_of_ble_eq_true rfl) dX6_layWay_186) hW (fun r_186 H locs hp hW => ?_)
                      subst hp
                      refine lv_iload hx hb dX6_layWay_189 (lv_at hl 8 rfl) ?_
                      refine lv_iload hx hb dX6_layWay_191 (lv_at hl 4 rfl) ?_
                      refine q_kI0 (q_rV (As := [.int (nI (w (f * 6 + t1))), .int (nI (t1)), .int (nI (d))]) (rest := []) (x := 71) hC hW mw_X6_going gw_590 (k_going l G n ad H.size I1 L1 R _ _ _ (hw3 _) (by omega) (by omega) w K ro hn hlk hN1) (by omega) (ct_o6 kd_71) rfl ⟨rfl, rfl⟩ ⟨Nat.le_of_ble_eq_true rfl, Nat.le_of_ble_eq_true rfl⟩ ⟨(Nat.le_of_ble_eq_true rfl), (Nat.le_of_ble_eq_true rfl)⟩ hl.1 rfl rfl (Nat.le_of_ble_eq_true rfl) dX6_layWay_193) hW (fun r_193 H locs hp hW => ?_)
                      subst hp
                      refine q_top (v2 := .int (nI (mv w K ro f t1 d))) rfl ?_
                      have hm9 := mv_le hw K ro f t1 d
                      refine lv_istore (lv' := [(11, .int (nI (mv w K ro f t1 d))), (0, .ref (ad 71)), (1, .int (-6)), (2, .int (x3)), (3, .int (nI (a1 + fC w ro K d f t1))), (4, .int (nI (d))), (5, .int (nI (f))), (7, .long (lN (fM w ro K d f 6))), (9, .int (nI 0)), (10, .int (nI (t1)))]) hx hb dX6_layWay_196 hl (by decide) rfl (fun ls hl => ?_)
                      refine q_bp 7 hx hb dX6_layWay_198 (by decide) ?_
                      refine lv_iload hx hb dX6_layWay_200 (lv_at hl 9 rfl) ?_
                      refine q_imul hx hb dX6_layWay_202 ?_
                      refine lv_iload hx hb dX6_layWay_203 (lv_at hl 9 rfl) ?_
                      refine lv_iload hx hb dX6_layWay_205 (lv_at hl 5 rfl) ?_
                      refine q_kI0 (q_rS (As := [.int (nI (t1)), .int (nI (d))]) (rest := [.int (nI (7 * t1))]) hC hW mw_X6_toldThen gw_598 (k_toldThen l G n ad H.size I1 L1 R _ _ (by omega) (by omega)) ⟨rfl, rfl⟩ ⟨Nat.le_of_ble_eq_true rfl, Nat.le_of_ble_eq_true rfl⟩ ⟨(Nat.le_of_ble_eq_true rfl), (Nat.le_of_ble_eq_true rfl)⟩ hl.1 rfl rfl (Nat.le_of_ble_eq_true rfl) dX6_layWay_207) hW (fun r_207 H locs hp hW => ?_)
                      subst hp
                      refine q_iadd hx hb dX6_layWay_210 ?_
                      refine lv_istore (lv' := [(12, .int (nI ((7 * t1) + (nx t1 d)))), (11, .int (nI (mv w K ro f t1 d))), (0, .ref (ad 71)), (1, .int (-6)), (2, .int (x3)), (3, .int (nI (a1 + fC w ro K d f t1))), (4, .int (nI (d))), (5, .int (nI (f))), (7, .long (lN (fM w ro K d f 6))), (9, .int (nI 0)), (10, .int (nI (t1)))]) hx hb dX6_layWay_211 hl (by decide) rfl (fun ls hl => ?_)
                      refine lv_iload hx hb dX6_layWay_213 (lv_at hl 1 rfl) ?_
                      refine q_ile (tgt := 228) hx hb dX6_layWay_215 (by decide) (by first | omega | exact Nat.lt_of_le_of_lt (hw3 _) (by decide)) (fun c_215 => ?_) (fun c_215 => ?_)
                      ·
                        have hz1 : mv w K ro f t1 d = 0 := by omega
                        refine q_ic 0 hx hb dX6_layWay_228 (by decide) ?_
                        have hrb := rtN_b hw (r := ro) (K := K) (d := d) (f := f) (t := t1) hk6
                        refine q_top (v2 := .int (nI (rtN w ro K d f t1))) (by rw [rt_n hz1]) ?_
                        refine lv_istore (lv' := [(13, .int (nI (rtN w ro K d f t1))), (12, .int (nI ((7 * t1) + (nx t1 d)))), (11, .int (nI (mv w K ro f t1 d))), (0, .ref (ad 71)), (1, .int (-6)), (2, .int (x3)), (3, .int (nI (a1 + fC w ro K d f t1))), (4, .int (nI (d))), (5, .int (nI (f))), (7, .long (lN (fM w ro K d f 6))), (9, .int (nI 0)), (10, .int (nI (t1)))]) hx hb dX6_layWay_229 hl (by decide) rfl (fun ls hl => ?_)
                        refine lv_iload_n hx hb dX6_layWay_231 rfl (lv_at hl 4 rfl) ?_
                        refine lv_if_ge (tgt := 270) hx hb dX6_layWay_232 (by decide) (fun c_232 => absurd c_232 (by decide)) (fun c_232 => ?_)
                        refine lv_iload hx hb dX6_layWay_235 (lv_at hl 2 rfl) ?_
                        refine q_ile (tgt := 266) hx hb dX6_layWay_237 (by decide) (by first | omega | exact Nat.lt_of_le_of_lt (hw3 _) (by decide)) (fun c_237 => ?_) (fun c_237 => absurd c_237 (by omega))
                        refine q_ic 0 hx hb dX6_layWay_266 (by decide) ?_
                        refine lv_goto (tgt := 281) hx hb dX6_layWay_267 (by decide) ?_
                        have hnot : ¬ okM w ro K d f t1 = true := fun q9 => by have h8 := (okM_iff.mp q9).1; rw [rt_n hz1] at h8; omega
                        refine lv_istore (lv' := [(9, .int (nI 0)), (13, .int (nI (rtN w ro K d f t1))), (12, .int (nI ((7 * t1) + (nx t1 d)))), (11, .int (nI (mv w K ro f t1 d))), (0, .ref (ad 71)), (1, .int (-6)), (2, .int (x3)), (3, .int (nI (a1 + fC w ro K d f t1))), (4, .int (nI (d))), (5, .int (nI (f))), (7, .long (lN (fM w ro K d f 6))), (10, .int (nI (t1)))]) hx hb dX6_layWay_281 hl (by decide) rfl (fun ls hl => ?_)
                        refine lv_iload hx hb dX6_layWay_283 (lv_at hl 0 rfl) ?_
                        refine q_ieq (tgt := 337) hx hb dX6_layWay_285 (by decide) (by first | omega | exact Nat.lt_of_le_of_lt (hw3 _) (by decide)) (fun c_285 => ?_) (fun c_285 => absurd c_285 (by decide))
                        refine lv_iload_n hx hb dX6_layWay_337 rfl (lv_at hl 6 rfl) ?_
                        refine lv_iload hx hb dX6_layWay_338 (lv_at hl 1 rfl) ?_
                        refine lv_isub hx hb dX6_layWay_340 ?_
                        refine lv_istore_n (lv' := [(2, .int (x3 - (nI (rtN w ro K d f t1)))), (9, .int (nI 0)), (13, .int (nI (rtN w ro K d f t1))), (12, .int (nI ((7 * t1) + (nx t1 d)))), (11, .int (nI (mv w K ro f t1 d))), (0, .ref (ad 71)), (1, .int (-6)), (3, .int (nI (a1 + fC w ro K d f t1))), (4, .int (nI (d))), (5, .int (nI (f))), (7, .long (lN (fM w ro K d f 6))), (10, .int (nI (t1)))]) hx hb dX6_layWay_341 rfl hl (by decide) rfl (fun ls hl => ?_)
                        refine lv_iload_n hx hb dX6_layWay_342 rfl (lv_at hl 7 rfl) ?_
                        refine lv_iload hx hb dX6_layWay_343 (lv_at hl 2 rfl) ?_
                        refine q_iadd hx hb dX6_layWay_345 ?_
                        refine q_top (v2 := .int (nI (a1 + fC w ro K d f (t1 + 1)))) (by rw [fC_s, Nat.add_assoc]) ?_
                        refine lv_istore_n (lv' := [(3, .int (nI (a1 + fC w ro K d f (t1 + 1)))), (2, .int (x3 - (nI (rtN w ro K d f t1)))), (9, .int (nI 0)), (13, .int (nI (rtN w ro K d f t1))), (12, .int (nI ((7 * t1) + (nx t1 d)))), (11, .int (nI (mv w K ro f t1 d))), (0, .ref (ad 71)), (1, .int (-6)), (4, .int (nI (d))), (5, .int (nI (f))), (7, .long (lN (fM w ro K d f 6))), (10, .int (nI (t1)))]) hx hb dX6_layWay_346 rfl hl (by decide) rfl (fun ls hl => ?_)
                        refine q_iinc (z2 := t1 + 1) (lv' := [(10, .int (nI (t1 + 1))), (3, .int (nI (a1 + fC w ro K d f (t1 + 1)))), (2, .int (x3 - (nI (rtN w ro K d f t1)))), (9, .int (nI 0)), (13, .int (nI (rtN w ro K d f t1))), (12, .int (nI ((7 * t1) + (nx t1 d)))), (11, .int (nI (mv w K ro f t1 d))), (0, .ref (ad 71)), (1, .int (-6)), (4, .int (nI (d))), (5, .int (nI (f))), (7, .long (lN (fM w ro K d f 6)))]) hx hb dX6_layWay_347 hl (k := 11) rfl (inc_up _ 1 (by decide)) (by decide) rfl (fun ls hl => ?_)
                        refine lv_goto (tgt := 153) hx hb dX6_layWay_350 (by decide) ?_
                        exact ih_153 (t1 + 1) (x3 - (nI (rtN w ro K d f t1))) (by omega) (by omega) (fun i hi => by by_cases e9 : i = t1; (rw [e9]; exact hnot); exact hno i (by omega)) _ _ hW _ (lv_sub hl [7, 8, 2, 1, 9, 10, 11, 3, 0] rfl)
                      ·
                        have hp1 : 0 < mv w K ro f t1 d := by omega
                        have hnx : nx t1 d ≤ K := nx_K2 hp1 (by omega)
                        have hmb := mM_lt hw (r := ro) K d f t1 hk6
                        refine lv_aload_n hx hb dX6_layWay_218 rfl (lv_at hl 2 rfl) ?_
                        refine g_6_9 (x := 71) (y := 79) hC hW (by omega) kd_71 gw_492 (hlk 71 9 79 (by omega) rfl) dX6_layWay_219 ?_
                        refine lv_iload hx hb dX6_layWay_222 (lv_at hl 0 rfl) ?_
                        refine q_iald (x := 79) (i := (7 * t1) + (nx t1 d)) hC hW (by omega) kd_79 (by omega) dX6_layWay_224 ?_
                        refine q_top (v2 := .int (nI (Cx' w K ro (K - (nx t1 d)) t1))) (congrArg _ (hB1 (nx t1 d) t1 (by omega) hnx (by omega)).2.2) ?_
                        refine lv_goto (tgt := 229) hx hb dX6_layWay_225 (by decide) ?_
                        have hrb := rtN_b hw (r := ro) (K := K) (d := d) (f := f) (t := t1) hk6
                        refine q_top (v2 := .int (nI (rtN w ro K d f t1))) (by rw [rt_p hp1]) ?_
                        refine lv_istore (lv' := [(13, .int (nI (rtN w ro K d f t1))), (12, .int (nI ((7 * t1) + (nx t1 d)))), (11, .int (nI (mv w K ro f t1 d))), (0, .ref (ad 71)), (1, .int (-6)), (2, .int (x3)), (3, .int (nI (a1 + fC w ro K d f t1))), (4, .int (nI (d))), (5, .int (nI (f))), (7, .long (lN (fM w ro K d f 6))), (9, .int (nI 0)), (10, .int (nI (t1)))]) hx hb dX6_layWay_229 hl (by decide) rfl (fun ls hl => ?_)
                        refine lv_iload_n hx hb dX6_layWay_231 rfl (lv_at hl 4 rfl) ?_
                        refine lv_if_ge (tgt := 270) hx hb dX6_layWay_232 (by decide) (fun c_232 => absurd c_232 (by decide)) (fun c_232 => ?_)
                        refine lv_iload hx hb dX6_layWay_235 (lv_at hl 2 rfl) ?_
                        refine q_ile (tgt := 266) hx hb dX6_layWay_237 (by decide) (by first | omega | exact Nat.lt_of_le_of_lt (hw3 _) (by decide)) (fun c_237 => absurd c_237 (by omega)) (fun c_237 => ?_)
                        refine lv_iload hx hb dX6_layWay_240 (lv_at hl 2 rfl) ?_
                        refine q_i2l hx hb dX6_layWay_242 (by first | omega | exact Nat.lt_of_le_of_lt (hw3 _) (by decide)) ?_
                        refine lv_aload_n hx hb dX6_layWay_243 rfl (lv_at hl 3 rfl) ?_
                        refine g_6_10 (x := 71) (y := 80) hC hW (by omega) kd_71 gw_493 (hlk 71 10 80 (by omega) rfl) dX6_layWay_244 ?_
                        refine lv_iload hx hb dX6_layWay_247 (lv_at hl 1 rfl) ?_
                        refine q_lald (x := 80) (i := (7 * t1) + (nx t1 d)) hC hW (by omega) kd_80 (by omega) dX6_layWay_249 ?_
                        refine q_top (v2 := .long (lN (Mx' w K ro (K - (nx t1 d)) t1))) (congrArg _ (hB1 (nx t1 d) t1 (by omega) hnx (by omega)).2.1) ?_
                        refine q_lmul hx hb dX6_layWay_250 ?_
                        refine lv_lload hx hb dX6_layWay_251 (lv_at hl 9 rfl) ?_
                        refine q_lcmp hx hb dX6_layWay_253 ?_
                        refine q_lne (tgt := 266) hx hb dX6_layWay_254 (by decide) hmb (Nat.lt_of_le_of_lt (fM_b hw (r := ro) K d f 6 hk6) (by decide)) (fun c_254 => ?_) (fun c_254 => ?_)
                        ·
                          refine q_ic 0 hx hb dX6_layWay_266 (by decide) ?_
                          refine lv_goto (tgt := 281) hx hb dX6_layWay_267 (by decide) ?_
                          have hnot : ¬ okM w ro K d f t1 = true := fun q9 => by have h9 := okM_iff.mp q9; have h8 := h9.1; first | omega | exact absurd (h9.2.trans hMf.symm) c_254
                          refine lv_istore (lv' := [(9, .int (nI 0)), (13, .int (nI (rtN w ro K d f t1))), (12, .int (nI ((7 * t1) + (nx t1 d)))), (11, .int (nI (mv w K ro f t1 d))), (0, .ref (ad 71)), (1, .int (-6)), (2, .int (x3)), (3, .int (nI (a1 + fC w ro K d f t1))), (4, .int (nI (d))), (5, .int (nI (f))), (7, .long (lN (fM w ro K d f 6))), (10, .int (nI (t1)))]) hx hb dX6_layWay_281 hl (by decide) rfl (fun ls hl => ?_)
                          refine lv_iload hx hb dX6_layWay_283 (lv_at hl 0 rfl) ?_
                          refine q_ieq (tgt := 337) hx hb dX6_layWay_285 (by decide) (by first | omega | exact Nat.lt_of_le_of_lt (hw3 _) (by decide)) (fun c_285 => ?_) (fun c_285 => absurd c_285 (by decide))
                          refine lv_iload_n hx hb dX6_layWay_337 rfl (lv_at hl 6 rfl) ?_
                          refine lv_iload hx hb dX6_layWay_338 (lv_at hl 1 rfl) ?_
                          refine lv_isub hx hb dX6_layWay_340 ?_
                          refine lv_istore_n (lv' := [(2, .int (x3 - (nI (rtN w ro K d f t1)))), (9, .int (nI 0)), (13, .int (nI (rtN w ro K d f t1))), (12, .int (nI ((7 * t1) + (nx t1 d)))), (11, .int (nI (mv w K ro f t1 d))), (0, .ref (ad 71)), (1, .int (-6)), (3, .int (nI (a1 + fC w ro K d f t1))), (4, .int (nI (d))), (5, .int (nI (f))), (7, .long (lN (fM w ro K d f 6))), (10, .int (nI (t1)))]) hx hb dX6_layWay_341 rfl hl (by decide) rfl (fun ls hl => ?_)
                          refine lv_iload_n hx hb dX6_layWay_342 rfl (lv_at hl 7 rfl) ?_
                          refine lv_iload hx hb dX6_layWay_343 (lv_at hl 2 rfl) ?_
                          refine q_iadd hx hb dX6_layWay_345 ?_
                          refine q_top (v2 := .int (nI (a1 + fC w ro K d f (t1 + 1)))) (by rw [fC_s, Nat.add_assoc]) ?_
                          refine lv_istore_n (lv' := [(3, .int (nI (a1 + fC w ro K d f (t1 + 1)))), (2, .int (x3 - (nI (rtN w ro K d f t1)))), (9, .int (nI 0)), (13, .int (nI (rtN w ro K d f t1))), (12, .int (nI ((7 * t1) + (nx t1 d)))), (11, .int (nI (mv w K ro f t1 d))), (0, .ref (ad 71)), (1, .int (-6)), (4, .int (nI (d))), (5, .int (nI (f))), (7, .long (lN (fM w ro K d f 6))), (10, .int (nI (t1)))]) hx hb dX6_layWay_346 rfl hl (by decide) rfl (fun ls hl => ?_)
                          refine q_iinc (z2 := t1 + 1) (lv' := [(10, .int (nI (t1 + 1))), (3, .int (nI (a1 + fC w ro K d f (t1 + 1)))), (2, .int (x3 - (nI (rtN w ro K d f t1)))), (9, .int (nI 0)), (13, .int (nI (rtN w ro K d f t1))), (12, .int (nI ((7 * t1) + (nx t1 d)))), (11, .int (nI (mv w K ro f t1 d))), (0, .ref (ad 71)), (1, .int (-6)), (4, .int (nI (d))), (5, .int (nI (f))), (7, .long (lN (fM w ro K d f 6)))]) hx hb dX6_layWay_347 hl (k := 11) rfl (inc_up _ 1 (by decide)) (by decide) rfl (fun ls hl => ?_)
                          refine lv_goto (tgt := 153) hx hb dX6_layWay_350 (by decide) ?_
                          exact ih_153 (t1 + 1) (x3 - (nI (rtN w ro K d f t1))) (by omega) (by omega) (fun i hi => by by_cases e9 : i = t1; (rw [e9]; exact hnot); exact hno i (by omega)) _ _ hW _ (lv_sub hl [7, 8, 2, 1, 9, 10, 11, 3, 0] rfl)
                        ·
                          refine lv_iload hx hb dX6_layWay_257 (lv_at hl 0 rfl) ?_
                          refine q_ile (tgt := 266) hx hb dX6_layWay_259 (by decide) (by first | omega | exact Nat.lt_of_le_of_lt (hw3 _) (by decide)) (fun c_259 => ?_) (fun c_259 => ?_)
                          ·
                            refine q_ic 0 hx hb dX6_layWay_266 (by decide) ?_
                            refine lv_goto (tgt := 281) hx hb dX6_layWay_267 (by decide) ?_
                            have hnot : ¬ okM w ro K d f t1 = true := fun q9 => by have h9 := okM_iff.mp q9; have h8 := h9.1; first | omega | exact absurd (h9.2.trans hMf.symm) c_254
                            refine lv_istore (lv' := [(9, .int (nI 0)), (13, .int (nI (rtN w ro K d f t1))), (12, .int (nI ((7 * t1) + (nx t1 d)))), (11, .int (nI (mv w K ro f t1 d))), (0, .ref (ad 71)), (1, .int (-6)), (2, .int (x3)), (3, .int (nI (a1 + fC w ro K d f t1))), (4, .int (nI (d))), (5, .int (nI (f))), (7, .long (lN (fM w ro K d f 6))), (10, .int (nI (t1)))]) hx hb dX6_layWay_281 hl (by decide) rfl (fun ls hl => ?_)
                            refine lv_iload hx hb dX6_layWay_283 (lv_at hl 0 rfl) ?_
                            refine q_ieq (tgt := 337) hx hb dX6_layWay_285 (by decide) (by first | omega | exact Nat.lt_of_le_of_lt (hw3 _) (by decide)) (fun c_285 => ?_) (fun c_285 => absurd c_285 (by decide))
                            refine lv_iload_n hx hb dX6_layWay_337 rfl (lv_at hl 6 rfl) ?_
                            refine lv_iload hx hb dX6_layWay_338 (lv_at hl 1 rfl) ?_
                            refine lv_isub hx hb dX6_layWay_340 ?_
                            refine lv_istore_n (lv' := [(2, .int (x3 - (nI (rtN w ro K d f t1)))), (9, .int (nI 0)), (13, .int (nI (rtN w ro K d f t1))), (12, .int (nI ((7 * t1) + (nx t1 d)))), (11, .int (nI (mv w K ro f t1 d))), (0, .ref (ad 71)), (1, .int (-6)), (3, .int (nI (a1 + fC w ro K d f t1))), (4, .int (nI (d))), (5, .int (nI (f))), (7, .long (lN (fM w ro K d f 6))), (10, .int (nI (t1)))]) hx hb dX6_layWay_341 rfl hl (by decide) rfl (fun ls hl => ?_)
                            refine lv_iload_n hx hb dX6_layWay_342 rfl (lv_at hl 7 rfl) ?_
                            refine lv_iload hx hb dX6_layWay_343 (lv_at hl 2 rfl) ?_
                            refine q_iadd hx hb dX6_layWay_345 ?_
                            refine q_top (v2 := .int (nI (a1 + fC w ro K d f (t1 + 1)))) (by rw [fC_s, Nat.add_assoc]) ?_
                            refine lv_istore_n (lv' := [(3, .int (nI (a1 + fC w ro K d f (t1 + 1)))), (2, .int (x3 - (nI (rtN w ro K d f t1)))), (9, .int (nI 0)), (13, .int (nI (rtN w ro K d f t1))), (12, .int (nI ((7 * t1) + (nx t1 d)))), (11, .int (nI (mv w K ro f t1 d))), (0, .ref (ad 71)), (1, .int (-6)), (4, .int (nI (d))), (5, .int (nI (f))), (7, .long (lN (fM w ro K d f 6))), (10, .int (nI (t1)))]) hx hb dX6_layWay_346 rfl hl (by decide) rfl (fun ls hl => ?_)
                            refine q_iinc (z2 := t1 + 1) (lv' := [(10, .int (nI (t1 + 1))), (3, .int (nI (a1 + fC w ro K d f (t1 + 1)))), (2, .int (x3 - (nI (rtN w ro K d f t1)))), (9, .int (nI 0)), (13, .int (nI (rtN w ro K d f t1))), (12, .int (nI ((7 * t1) + (nx t1 d)))), (11, .int (nI (mv w K ro f t1 d))), (0, .ref (ad 71)), (1, .int (-6)), (4, .int (nI (d))), (5, .int (nI (f))), (7, .long (lN (fM w ro K d f 6)))]) hx hb dX6_layWay_347 hl (k := 11) rfl (inc_up _ 1 (by decide)) (by decide) rfl (fun ls hl => ?_)
                            refine lv_goto (tgt := 153) hx hb dX6_layWay_350 (by decide) ?_
                            exact ih_153 (t1 + 1) (x3 - (nI (rtN w ro K d f t1))) (by omega) (by omega) (fun i hi => by by_cases e9 : i = t1; (rw [e9]; exact hnot); exact hno i (by omega)) _ _ hW _ (lv_sub hl [7, 8, 2, 1, 9, 10, 11, 3, 0] rfl)
                          ·
                            refine q_ic 1 hx hb dX6_layWay_262 (by decide) ?_
                            refine lv_goto (tgt := 281) hx hb dX6_layWay_263 (by decide) ?_
                            have hok : okM w ro K d f t1 = true := okM_iff.mpr ⟨by omega, (show mv w K ro f t1 d * Mx' w K ro (K - nx t1 d) t1 = _ from c_254).trans hMf⟩
                            refine lv_istore (lv' := [(9, .int (nI 1)), (13, .int (nI (rtN w ro K d f t1))), (12, .int (nI ((7 * t1) + (nx t1 d)))), (11, .int (nI (mv w K ro f t1 d))), (0, .ref (ad 71)), (1, .int (-6)), (2, .int (x3)), (3, .int (nI (a1 + fC w ro K d f t1))), (4, .int (nI (d))), (5, .int (nI (f))), (7, .long (lN (fM w ro K d f 6))), (10, .int (nI (t1)))]) hx hb dX6_layWay_281 hl (by decide) rfl (fun ls hl => ?_)
                            refine lv_iload hx hb dX6_layWay_283 (lv_at hl 0 rfl) ?_
                            refine q_ieq (tgt := 337) hx hb dX6_layWay_285 (by decide) (by first | omega | exact Nat.lt_of_le_of_lt (hw3 _) (by decide)) (fun c_285 => absurd c_285 (by decide)) (fun c_285 => ?_)
                            refine lv_aload_n hx hb dX6_layWay_288 rfl (lv_at hl 4 rfl) ?_
                            refine g_6_11 (x := 71) (y := 81) hC hW (by omega) kd_71 gw_494 (hlk 71 11 81 (by omega) rfl) dX6_layWay_289 ?_
                            refine lv_aload_n hx hb dX6_layWay_292 rfl (lv_at hl 4 rfl) ?_
                            refine g_6_12 (x := 71) hC hW (by omega) kd_71 gw_495 dX6_layWay_293 ?_
                            refine q_top (v2 := .int (nI (s1))) (congrArg _ hF.2.1) ?_
                            refine lv_iload hx hb dX6_layWay_296 (lv_at hl 11 rfl) ?_
                            refine q_iast (x := 81) (i := s1) (v := nI t1) hC hW (by omega) kd_81 (by omega) dX6_layWay_298 (fun H locs hW => ?_)
                            refine lv_aload_n hx hb dX6_layWay_299 rfl (lv_at hl 4 rfl) ?_
                            refine lv_dup hx hb dX6_layWay_300 rfl ?_
                            refine g_6_12 (x := 71) hC hW (by omega) kd_71 gw_495 dX6_layWay_301 ?_
                            refine q_top (v2 := .int (nI (s1))) (congrArg _ (by rw [up2_ne (by decide)]; exact hF.2.1)) ?_
                            refine q_ic 1 hx hb dX6_layWay_304 (by decide) ?_
                            refine q_iadd hx hb dX6_layWay_305 ?_
                            refine p_6_12 (x := 71) (v := nI (s1 + 1)) hC hW (by omega) kd_71 gw_495 dX6_layWay_306 (fun H locs hW => ?_)
                            refine lv_aload_n hx hb dX6_layWay_309 rfl (lv_at hl 4 rfl) ?_
                            refine lv_dup hx hb dX6_layWay_310 rfl ?_
                            refine g_6_13 (x := 71) hC hW (by omega) kd_71 gw_496 dX6_layWay_311 ?_
                            refine lv_iload hx hb dX6_layWay_314 (lv_at hl 3 rfl) ?_
                            refine q_i2l hx hb dX6_layWay_316 (by first | omega | exact Nat.lt_of_le_of_lt (hw3 _) (by decide)) ?_
                            refine lv_lmul hx hb dX6_layWay_317 ?_
                            refine p_6_13 (x := 71) (v := (L1 71 13) * (lN (mv w K ro f t1 d))) hC hW (by omega) kd_71 gw_496 dX6_layWay_318 (fun H locs hW => ?_)
                            refine lv_iload hx hb dX6_layWay_321 (lv_at hl 11 rfl) ?_
                            refine lv_iload hx hb dX6_layWay_323 (lv_at hl 8 rfl) ?_
                            refine q_kI0 (q_rS (As := [.int (nI (t1)), .int (nI (d))]) (rest := []) hC hW mw_X6_toldThen gw_598 (k_toldThen l G n ad H.size (up2 (up2 I1 81 s1 (nI t1)) 71 12 (nI (s1 + 1))) (up2 L1 71 13 ((L1 71 13) * (lN (mv w K ro f t1 d)))) R _ _ (by omega) (by omega)) ⟨rfl, rfl⟩ ⟨Nat.le_of_ble_eq_true rfl, Nat.le_of_ble_eq_true rfl⟩ ⟨(Nat.le_of_ble_eq_true rfl), (Nat.le_of_ble_eq_true rfl)⟩ hl.1 rfl rfl (Nat.le_of_ble_eq_true rfl) dX6_layWay_325) hW (fun r_325 H locs hp hW => ?_)
                            subst hp
                            refine lv_istore (lv' := [(4, .int (nI (nx t1 d))), (9, .int (nI 1)), (13, .int (nI (rtN w ro K d f t1))), (12, .int (nI ((7 * t1) + (nx t1 d)))), (11, .int (nI (mv w K ro f t1 d))), (0, .ref (ad 71)), (1, .int (-6)), (2, .int (x3)), (3, .int (nI (a1 + fC w ro K d f t1))), (5, .int (nI (f))), (7, .long (lN (fM w ro K d f 6))), (10, .int (nI (t1)))]) hx hb dX6_layWay_328 hl (by decide) rfl (fun ls hl => ?_)
                            refine lv_iload hx hb dX6_layWay_330 (lv_at hl 11 rfl) ?_
                            refine lv_istore (lv' := [(5, .int (nI (t1))), (4, .int (nI (nx t1 d))), (9, .int (nI 1)), (13, .int (nI (rtN w ro K d f t1))), (12, .int (nI ((7 * t1) + (nx t1 d)))), (11, .int (nI (mv w K ro f t1 d))), (0, .ref (ad 71)), (1, .int (-6)), (2, .int (x3)), (3, .int (nI (a1 + fC w ro K d f t1))), (7, .long (lN (fM w ro K d f 6))), (10, .int (nI (t1)))]) hx hb dX6_layWay_332 hl (by decide) rfl (fun ls hl => ?_)
                            refine lv_goto (tgt := 347) hx hb dX6_layWay_334 (by decide) ?_
                            refine q_iinc (z2 := t1 + 1) (lv' := [(10, .int (nI (t1 + 1))), (5, .int (nI (t1))), (4, .int (nI (nx t1 d))), (9, .int (nI 1)), (13, .int (nI (rtN w ro K d f t1))), (12, .int (nI ((7 * t1) + (nx t1 d)))), (11, .int (nI (mv w K ro f t1 d))), (0, .ref (ad 71)), (1, .int (-6)), (2, .int (x3)), (3, .int (nI (a1 + fC w ro K d f t1))), (7, .long (lN (fM w ro K d f 6)))]) hx hb dX6_layWay_347 hl (k := 11) rfl (inc_up _ 1 (by decide)) (by decide) rfl (fun ls hl => ?_)
                            refine lv_goto (tgt := 153) hx hb dX6_layWay_350 (by decide) ?_
                            refine lv_iload hx hb dX6_layWay_153 (lv_at hl 0 rfl) ?_
                            refine q_bp 6 hx hb dX6_layWay_155 (by decide) ?_
                            refine q_cge (tgt := 353) hx hb dX6_layWay_157 (by decide) (by first | omega | exact Nat.lt_of_le_of_lt (hw3 _) (by decide)) (by first | omega | exact Nat.lt_of_le_of_lt (hw3 _) (by decide)) (fun c_157 => ?_) (fun c_157 => ?_)
                            ·
                              refine lv_iload hx hb dX6_layWay_353 (lv_at hl 1 rfl) ?_
                              refine q_ic 4 hx hb dX6_layWay_355 (by decide) ?_
                              refine q_cge (tgt := 375) hx hb dX6_layWay_356 (by decide) (by first | omega | exact Nat.lt_of_le_of_lt (hw3 _) (by decide)) (by first | omega | exact Nat.lt_of_le_of_lt (hw3 _) (by decide)) (fun c_356 => ?_) (fun c_356 => ?_)
                              ·
                                refine q_ic 0 hx hb dX6_layWay_375 (by decide) ?_
                                refine lv_istore (lv' := [(6, .int (nI 0)), (10, .int (nI (t1 + 1))), (5, .int (nI (t1))), (4, .int (nI (nx t1 d))), (9, .int (nI 1)), (13, .int (nI (rtN w ro K d f t1))), (12, .int (nI ((7 * t1) + (nx t1 d)))), (11, .int (nI (mv w K ro f t1 d))), (0, .ref (ad 71)), (1, .int (-6)), (2, .int (x3)), (3, .int (nI (a1 + fC w ro K d f t1))), (7, .long (lN (fM w ro K d f 6)))]) hx hb dX6_layWay_376 hl (by decide) rfl (fun ls hl => ?_)
                                have hnj := NJ_s hw hNJ hdK (show t1 < 6 by omega) hp1
                                have hbs := byM_s (w := w) (r := ro) hs18 hdK (show t1 < 6 by omega) hno hok
                                have hfj := FJ_s (hbs ▸ hF) hs18
                                have hq3 : a1 + fC w ro K d f t1 + rkN w ro K (nx t1 d) t1 (byM w ro K (19 - (s1 + 1)) (nx t1 d) t1) = rkN w ro K 0 6 (wayM w ro K) ∧ 0 < Cx' w K ro (K - nx t1 d) t1 := ⟨by rw [← hGI.1, hbs, Nat.add_assoc]; rfl, by have h8 := (okM_iff.mp hok).1; rw [rt_p hp1] at h8; exact h8⟩
                                have hen : bI (nx t1 d = K) = nI 0 := bI_f (by unfold nx; rw [if_neg (by omega)]; omega)
                                have hl : lv_has ls 14 [(6, .int (bI (nx t1 d = K))), (10, .int (nI (t1 + 1))), (5, .int (nI (t1))), (4, .int (nI (nx t1 d))), (9, .int (nI 1)), (13, .int (nI (rtN w ro K d f t1))), (12, .int (nI ((7 * t1) + (nx t1 d)))), (11, .int (nI (mv w K ro f t1 d))), (0, .ref (ad 71)), (1, .int (-6)), (2, .int (x3)), (3, .int (nI (a1 + fC w ro K d f t1))), (7, .long (lN (fM w ro K d f 6)))] := by rw [hen]; exact hl
                                have hl : lv_has ls 14 [(6, .int (bI (nx t1 d = K))), (10, .int (nI (t1 + 1))), (5, .int (fr6 t1)), (4, .int (nI (nx t1 d))), (9, .int (nI 1)), (13, .int (nI (rtN w ro K d f t1))), (12, .int (nI ((7 * t1) + (nx t1 d)))), (11, .int (nI (mv w K ro f t1 d))), (0, .ref (ad 71)), (1, .int (-6)), (2, .int (x3)), (3, .int (nI (a1 + fC w ro K d f t1))), (7, .long (lN (fM w ro K d f 6)))] := by rw [show fr6 t1 = nI t1 from if_neg (by omega)]; exact hl
                                refine lv_goto (tgt := 38) hx hb dX6_layWay_378 (by decide) ?_
                                exact ih_38 (s1 + 1) (nx t1 d) t1 x3 (a1 + fC w ro K d f t1) (up2 (up2 I1 81 s1 (nI t1)) 71 12 (nI (s1 + 1))) (up2 L1 71 13 ((L1 71 13) * (lN (mv w K ro f t1 d)))) (by omega) hfj hnj hq3 _ _ hW _ (lv_sub hl [8, 9, 10, 11, 3, 2, 0] rfl)
                              ·
                                refine lv_iload hx hb dX6_layWay_359 (lv_at hl 2 rfl) ?_
                                refine lv_aload_n hx hb dX6_layWay_361 rfl (lv_at hl 7 rfl) ?_
                                refine g_6_0 (x := 71) (y := 72) hC hW (by omega) kd_71 gw_483 (hlk 71 0 72 (by omega) rfl) dX6_layWay_362 ?_
                                refine q_bp 58 hx hb dX6_layWay_365 (by decide) ?_
                                refine q_iald (x := 72) (i := 58) hC hW (by omega) kd_72 (by omega) dX6_layWay_367 ?_
                                refine q_top (v2 := .int (nI (K))) (congrArg _ (by rw [up2_ne (by decide), up2_ne (by decide)]; exact hN1.2.1)) ?_
                                refine q_cne (tgt := 375) hx hb dX6_layWay_368 (by decide) (by first | omega | exact Nat.lt_of_le_of_lt (hw3 _) (by decide)) (by first | omega | exact Nat.lt_of_le_of_lt (hw3 _) (by decide)) (fun c_368 => ?_) (fun c_368 => ?_)
                                ·
                                  refine q_ic 0 hx hb dX6_layWay_375 (by decide) ?_
                                  refine lv_istore (lv' := [(6, .int (nI 0)), (10, .int (nI (t1 + 1))), (5, .int (nI (t1))), (4, .int (nI (nx t1 d))), (9, .int (nI 1)), (13, .int (nI (rtN w ro K d f t1))), (12, .int (nI ((7 * t1) + (nx t1 d)))), (11, .int (nI (mv w K ro f t1 d))), (0, .ref (ad 71)), (1, .int (-6)), (2, .int (x3)), (3, .int (nI (a1 + fC w ro K d f t1))), (7, .long (lN (fM w ro K d f 6)))]) hx hb dX6_layWay_376 hl (by decide) rfl (fun ls hl => ?_)
                                  have hnj := NJ_s hw hNJ hdK (show t1 < 6 by omega) hp1
                                  have hbs := byM_s (w := w) (r := ro) hs18 hdK (show t1 < 6 by omega) hno hok
                                  have hfj := FJ_s (hbs ▸ hF) hs18
                                  have hq3 : a1 + fC w ro K d f t1 + rkN w ro K (nx t1 d) t1 (byM w ro K (19 - (s1 + 1)) (nx t1 d) t1) = rkN w ro K 0 6 (wayM w ro K) ∧ 0 < Cx' w K ro (K - nx t1 d) t1 := ⟨by rw [← hGI.1, hbs, Nat.add_assoc]; rfl, by have h8 := (okM_iff.mp hok).1; rw [rt_p hp1] at h8; exact h8⟩
                                  have hen : bI (nx t1 d = K) = nI 0 := bI_f (by omega)
                                  have hl : lv_has ls 14 [(6, .int (bI (nx t1 d = K))), (10, .int (nI (t1 + 1))), (5, .int (nI (t1))), (4, .int (nI (nx t1 d))), (9, .int (nI 1)), (13, .int (nI (rtN w ro K d f t1))), (12, .int (nI ((7 * t1) + (nx t1 d)))), (11, .int (nI (mv w K ro f t1 d))), (0, .ref (ad 71)), (1, .int (-6)), (2, .int (x3)), (3, .int (nI (a1 + fC w ro K d f t1))), (7, .long (lN (fM w ro K d f 6)))] := by rw [hen]; exact hl
                                  have hl : lv_has ls 14 [(6, .int (bI (nx t1 d = K))), (10, .int (nI (t1 + 1))), (5, .int (fr6 t1)), (4, .int (nI (nx t1 d))), (9, .int (nI 1)), (13, .int (nI (rtN w ro K d f t1))), (12, .int (nI ((7 * t1) + (nx t1 d)))), (11, .int (nI (mv w K ro f t1 d))), (0, .ref (ad 71)), (1, .int (-6)), (2, .int (x3)), (3, .int (nI (a1 + fC w ro K d f t1))), (7, .long (lN (fM w ro K d f 6)))] := by rw [show fr6 t1 = nI t1 from if_neg (by omega)]; exact hl
                                  refine lv_goto (tgt := 38) hx hb dX6_layWay_378 (by decide) ?_
                                  exact ih_38 (s1 + 1) (nx t1 d) t1 x3 (a1 + fC w ro K d f t1) (up2 (up2 I1 81 s1 (nI t1)) 71 12 (nI (s1 + 1))) (up2 L1 71 13 ((L1 71 13) * (lN (mv w K ro f t1 d)))) (by omega) hfj hnj hq3 _ _ hW _ (lv_sub hl [8, 9, 10, 11, 3, 2, 0] rfl)
                                ·
                                  refine q_ic 1 hx hb dX6_layWay_371 (by decide) ?_
                                  refine lv_goto (tgt := 376) hx hb dX6_layWay_372 (by decide) ?_
                                  refine lv_istore (lv' := [(6, .int (nI 1)), (10, .int (nI (t1 + 1))), (5, .int (nI (t1))), (4, .int (nI (nx t1 d))), (9, .int (nI 1)), (13, .int (nI (rtN w ro K d f t1))), (12, .int (nI ((7 * t1) + (nx t1 d)))), (11, .int (nI (mv w K ro f t1 d))), (0, .ref (ad 71)), (1, .int (-6)), (2, .int (x3)), (3, .int (nI (a1 + fC w ro K d f t1))), (7, .long (lN (fM w ro K d f 6)))]) hx hb dX6_layWay_376 hl (by decide) rfl (fun ls hl => ?_)
                                  have hnj := NJ_s hw hNJ hdK (show t1 < 6 by omega) hp1
                                  have hbs := byM_s (w := w) (r := ro) hs18 hdK (show t1 < 6 by omega) hno hok
                                  have hfj := FJ_s (hbs ▸ hF) hs18
                                  have hq3 : a1 + fC w ro K d f t1 + rkN w ro K (nx t1 d) t1 (byM w ro K (19 - (s1 + 1)) (nx t1 d) t1) = rkN w ro K 0 6 (wayM w ro K) ∧ 0 < Cx' w K ro (K - nx t1 d) t1 := ⟨by rw [← hGI.1, hbs, Nat.add_assoc]; rfl, by have h8 := (okM_iff.mp hok).1; rw [rt_p hp1] at h8; exact h8⟩
                                  have hen : bI (nx t1 d = K) = nI 1 := bI_t (by omega)
                                  have hl : lv_has ls 14 [(6, .int (bI (nx t1 d = K))), (10, .int (nI (t1 + 1))), (5, .int (nI (t1))), (4, .int (nI (nx t1 d))), (9, .int (nI 1)), (13, .int (nI (rtN w ro K d f t1))), (12, .int (nI ((7 * t1) + (nx t1 d)))), (11, .int (nI (mv w K ro f t1 d))), (0, .ref (ad 71)), (1, .int (-6)), (2, .int (x3)), (3, .int (nI (a1 + fC w ro K d f t1))), (7, .long (lN (fM w ro K d f 6)))] := by rw [hen]; exact hl
                                  have hl : lv_has ls 14 [(6, .int (bI (nx t1 d = K))), (10, .int (nI (t1 + 1))), (5, .int (fr6 t1)), (4, .int (nI (nx t1 d))), (9, .int (nI 1)), (13, .int (nI (rtN w ro K d f t1))), (12, .int (nI ((7 * t1) + (nx t1 d)))), (11, .int (nI (mv w K ro f t1 d))), (0, .ref (ad 71)), (1, .int (-6)), (2, .int (x3)), (3, .int (nI (a1 + fC w ro K d f t1))), (7, .long (lN (fM w ro K d f 6)))] := by rw [show fr6 t1 = nI t1 from if_neg (by omega)]; exact hl
                                  refine lv_goto (tgt := 38) hx hb dX6_layWay_378 (by decide) ?_
                                  exact ih_38 (s1 + 1) (nx t1 d) t1 x3 (a1 + fC w ro K d f t1) (up2 (up2 I1 81 s1 (nI t1)) 71 12 (nI (s1 + 1))) (up2 L1 71 13 ((L1 71 13) * (lN (mv w K ro f t1 d)))) (by omega) hfj hnj hq3 _ _ hW _ (lv_sub hl [8, 9, 10, 11, 3, 2, 0] rfl)
                            ·
                              refine lv_iload hx hb dX6_layWay_160 (lv_at hl 3 rfl) ?_
                              refine q_ine (tgt := 353) hx hb dX6_layWay_162 (by decide) (by first | omega | exact Nat.lt_of_le_of_lt (hw3 _) (by decide)) (fun c_162 => ?_) (fun c_162 => absurd c_162 (by decide))
                              refine lv_iload hx hb dX6_layWay_353 (lv_at hl 1 rfl) ?_
                              refine q_ic 4 hx hb dX6_layWay_355 (by decide) ?_
                              refine q_cge (tgt := 375) hx hb dX6_layWay_356 (by decide) (by first | omega | exact Nat.lt_of_le_of_lt (hw3 _) (by decide)) (by first | omega | exact Nat.lt_of_le_of_lt (hw3 _) (by decide)) (fun c_356 => ?_) (fun c_356 => ?_)
                              ·
                                refine q_ic 0 hx hb dX6_layWay_375 (by decide) ?_
                                refine lv_istore (lv' := [(6, .int (nI 0)), (10, .int (nI (t1 + 1))), (5, .int (nI (t1))), (4, .int (nI (nx t1 d))), (9, .int (nI 1)), (13, .int (nI (rtN w ro K d f t1))), (12, .int (nI ((7 * t1) + (nx t1 d)))), (11, .int (nI (mv w K ro f t1 d))), (0, .ref (ad 71)), (1, .int (-6)), (2, .int (x3)), (3, .int (nI (a1 + fC w ro K d f t1))), (7, .long (lN (fM w ro K d f 6)))]) hx hb dX6_layWay_376 hl (by decide) rfl (fun ls hl => ?_)
                                have hnj := NJ_s hw hNJ hdK (show t1 < 6 by omega) hp1
                                have hbs := byM_s (w := w) (r := ro) hs18 hdK (show t1 < 6 by omega) hno hok
                                have hfj := FJ_s (hbs ▸ hF) hs18
                                have hq3 : a1 + fC w ro K d f t1 + rkN w ro K (nx t1 d) t1 (byM w ro K (19 - (s1 + 1)) (nx t1 d) t1) = rkN w ro K 0 6 (wayM w ro K) ∧ 0 < Cx' w K ro (K - nx t1 d) t1 := ⟨by rw [← hGI.1, hbs, Nat.add_assoc]; rfl, by have h8 := (okM_iff.mp hok).1; rw [rt_p hp1] at h8; exact h8⟩
                                have hen : bI (nx t1 d = K) = nI 0 := bI_f (by unfold nx; rw [if_neg (by omega)]; omega)
                                have hl : lv_has ls 14 [(6, .int (bI (nx t1 d = K))), (10, .int (nI (t1 + 1))), (5, .int (nI (t1))), (4, .int (nI (nx t1 d))), (9, .int (nI 1)), (13, .int (nI (rtN w ro K d f t1))), (12, .int (nI ((7 * t1) + (nx t1 d)))), (11, .int (nI (mv w K ro f t1 d))), (0, .ref (ad 71)), (1, .int (-6)), (2, .int (x3)), (3, .int (nI (a1 + fC w ro K d f t1))), (7, .long (lN (fM w ro K d f 6)))] := by rw [hen]; exact hl
                                have hl : lv_has ls 14 [(6, .int (bI (nx t1 d = K))), (10, .int (nI (t1 + 1))), (5, .int (fr6 t1)), (4, .int (nI (nx t1 d))), (9, .int (nI 1)), (13, .int (nI (rtN w ro K d f t1))), (12, .int (nI ((7 * t1) + (nx t1 d)))), (11, .int (nI (mv w K ro f t1 d))), (0, .ref (ad 71)), (1, .int (-6)), (2, .int (x3)), (3, .int (nI (a1 + fC w ro K d f t1))), (7, .long (lN (fM w ro K d f 6)))] := by rw [show fr6 t1 = nI t1 from if_neg (by omega)]; exact hl
                                refine lv_goto (tgt := 38) hx hb dX6_layWay_378 (by decide) ?_
                                exact ih_38 (s1 + 1) (nx t1 d) t1 x3 (a1 + fC w ro K d f t1) (up2 (up2 I1 81 s1 (nI t1)) 71 12 (nI (s1 + 1))) (up2 L1 71 13 ((L1 71 13) * (lN (mv w K ro f t1 d)))) (by omega) hfj hnj hq3 _ _ hW _ (lv_sub hl [8, 9, 10, 11, 3, 2, 0] rfl)
                              ·
                                refine lv_iload hx hb dX6_layWay_359 (lv_at hl 2 rfl) ?_
                                refine lv_aload_n hx hb dX6_layWay_361 rfl (lv_at hl 7 rfl) ?_
                                refine g_6_0 (x := 71) (y := 72) hC hW (by omega) kd_71 gw_483 (hlk 71 0 72 (by omega) rfl) dX6_layWay_362 ?_
                                refine q_bp 58 hx hb dX6_layWay_365 (by decide) ?_
                                refine q_iald (x := 72) (i := 58) hC hW (by omega) kd_72 (by omega) dX6_layWay_367 ?_
                                refine q_top (v2 := .int (nI (K))) (congrArg _ (by rw [up2_ne (by decide), up2_ne (by decide)]; exact hN1.2.1)) ?_
                                refine q_cne (tgt := 375) hx hb dX6_layWay_368 (by decide) (by first | omega | exact Nat.lt_of_le_of_lt (hw3 _) (by decide)) (by first | omega | exact Nat.lt_of_le_of_lt (hw3 _) (by decide)) (fun c_368 => ?_) (fun c_368 => ?_)
                                ·
                                  refine q_ic 0 hx hb dX6_layWay_375 (by decide) ?_
                                  refine lv_istore (lv' := [(6, .int (nI 0)), (10, .int (nI (t1 + 1))), (5, .int (nI (t1))), (4, .int (nI (nx t1 d))), (9, .int (nI 1)), (13, .int (nI (rtN w ro K d f t1))), (12, .int (nI ((7 * t1) + (nx t1 d)))), (11, .int (nI (mv w K ro f t1 d))), (0, .ref (ad 71)), (1, .int (-6)), (2, .int (x3)), (3, .int (nI (a1 + fC w ro K d f t1))), (7, .long (lN (fM w ro K d f 6)))]) hx hb dX6_layWay_376 hl (by decide) rfl (fun ls hl => ?_)
                                  have hnj := NJ_s hw hNJ hdK (show t1 < 6 by omega) hp1
                                  have hbs := byM_s (w := w) (r := ro) hs18 hdK (show t1 < 6 by omega) hno hok
                                  have hfj := FJ_s (hbs ▸ hF) hs18
                                  have hq3 : a1 + fC w ro K d f t1 + rkN w ro K (nx t1 d) t1 (byM w ro K (19 - (s1 + 1)) (nx t1 d) t1) = rkN w ro K 0 6 (wayM w ro K) ∧ 0 < Cx' w K ro (K - nx t1 d) t1 := ⟨by rw [← hGI.1, hbs, Nat.add_assoc]; rfl, by have h8 := (okM_iff.mp hok).1; rw [rt_p hp1] at h8; exact h8⟩
                                  have hen : bI (nx t1 d = K) = nI 0 := bI_f (by omega)
                                  have hl : lv_has ls 14 [(6, .int (bI (nx t1 d = K))), (10, .int (nI (t1 + 1))), (5, .int (nI (t1))), (4, .int (nI (nx t1 d))), (9, .int (nI 1)), (13, .int (nI (rtN w ro K d f t1))), (12, .int (nI ((7 * t1) + (nx t1 d)))), (11, .int (nI (mv w K ro f t1 d))), (0, .ref (ad 71)), (1, .int (-6)), (2, .int (x3)), (3, .int (nI (a1 + fC w ro K d f t1))), (7, .long (lN (fM w ro K d f 6)))] := by rw [hen]; exact hl
                                  have hl : lv_has ls 14 [(6, .int (bI (nx t1 d = K))), (10, .int (nI (t1 + 1))), (5, .int (fr6 t1)), (4, .int (nI (nx t1 d))), (9, .int (nI 1)), (13, .int (nI (rtN w ro K d f t1))), (12, .int (nI ((7 * t1) + (nx t1 d)))), (11, .int (nI (mv w K ro f t1 d))), (0, .ref (ad 71)), (1, .int (-6)), (2, .int (x3)), (3, .int (nI (a1 + fC w ro K d f t1))), (7, .long (lN (fM w ro K d f 6)))] := by rw [show fr6 t1 = nI t1 from if_neg (by omega)]; exact hl
                                  refine lv_goto (tgt := 38) hx hb dX6_layWay_378 (by decide) ?_
                                  exact ih_38 (s1 + 1) (nx t1 d) t1 x3 (a1 + fC w ro K d f t1) (up2 (up2 I1 81 s1 (nI t1)) 71 12 (nI (s1 + 1))) (up2 L1 71 13 ((L1 71 13) * (lN (mv w K ro f t1 d)))) (by omega) hfj hnj hq3 _ _ hW _ (lv_sub hl [8, 9, 10, 11, 3, 2, 0] rfl)
                                ·
                                  refine q_ic 1 hx hb dX6_layWay_371 (by decide) ?_
                                  refine lv_goto (tgt := 376) hx hb dX6_layWay_372 (by decide) ?_
                                  refine lv_istore (lv' := [(6, .int (nI 1)), (10, .int (nI (t1 + 1))), (5, .int (nI (t1))), (4, .int (nI (nx t1 d))), (9, .int (nI 1)), (13, .int (nI (rtN w ro K d f t1))), (12, .int (nI ((7 * t1) + (nx t1 d)))), (11, .int (nI (mv w K ro f t1 d))), (0, .ref (ad 71)), (1, .int (-6)), (2, .int (x3)), (3, .int (nI (a1 + fC w ro K d f t1))), (7, .long (lN (fM w ro K d f 6)))]) hx hb dX6_layWay_376 hl (by decide) rfl (fun ls hl => ?_)
                                  have hnj := NJ_s hw hNJ hdK (show t1 < 6 by omega) hp1
                                  have hbs := byM_s (w := w) (r := ro) hs18 hdK (show t1 < 6 by omega) hno hok
                                  have hfj := FJ_s (hbs ▸ hF) hs18
                                  have hq3 : a1 + fC w ro K d f t1 + rkN w ro K (nx t1 d) t1 (byM w ro K (19 - (s1 + 1)) (nx t1 d) t1) = rkN w ro K 0 6 (wayM w ro K) ∧ 0 < Cx' w K ro (K - nx t1 d) t1 := ⟨by rw [← hGI.1, hbs, Nat.add_assoc]; rfl, by have h8 := (okM_iff.mp hok).1; rw [rt_p hp1] at h8; exact h8⟩
                                  have hen : bI (nx t1 d = K) = nI 1 := bI_t (by omega)
                                  have hl : lv_has ls 14 [(6, .int (bI (nx t1 d = K))), (10, .int (nI (t1 + 1))), (5, .int (nI (t1))), (4, .int (nI (nx t1 d))), (9, .int (nI 1)), (13, .int (nI (rtN w ro K d f t1))), (12, .int (nI ((7 * t1) + (nx t1 d)))), (11, .int (nI (mv w K ro f t1 d))), (0, .ref (ad 71)), (1, .int (-6)), (2, .int (x3)), (3, .int (nI (a1 + fC w ro K d f t1))), (7, .long (lN (fM w ro K d f 6)))] := by rw [hen]; exact hl
                                  have hl : lv_has ls 14 [(6, .int (bI (nx t1 d = K))), (10, .int (nI (t1 + 1))), (5, .int (fr6 t1)), (4, .int (nI (nx t1 d))), (9, .int (nI 1)), (13, .int (nI (rtN w ro K d f t1))), (12, .int (nI ((7 * t1) + (nx t1 d)))), (11, .int (nI (mv w K ro f t1 d))), (0, .ref (ad 71)), (1, .int (-6)), (2, .int (x3)), (3, .int (nI (a1 + fC w ro K d f t1))), (7, .long (lN (fM w ro K d f 6)))] := by rw [show fr6 t1 = nI t1 from if_neg (by omega)]; exact hl
                                  refine lv_goto (tgt := 38) hx hb dX6_layWay_378 (by decide) ?_
                                  exact ih_38 (s1 + 1) (nx t1 d) t1 x3 (a1 + fC w ro K d f t1) (up2 (up2 I1 81 s1 (nI t1)) 71 12 (nI (s1 + 1))) (up2 L1 71 13 ((L1 71 13) * (lN (mv w K ro f t1 d)))) (by omega) hfj hnj hq3 _ _ hW _ (lv_sub hl [8, 9, 10, 11, 3, 2, 0] rfl)
                  exact lp_153 (6 + 1) 0 x2 (by omega) (by omega) (fun i hi => absurd hi (by omega)) _ _ hW _ (lv_sub hl [2, 3, 4, 5, 6, 7, 8, 1, 0] rfl)
                ·
                  refine lv_aload_n hx hb dX6_layWay_56 rfl (lv_at hl 0 rfl) ?_
                  refine lv_iload hx hb dX6_layWay_57 (lv_at hl 5 rfl) ?_
                  refine lv_if_ge (tgt := 72) hx hb dX6_layWay_59 (by decide) (fun c_59 => ?_) (fun c_59 => absurd (Int32.not_lt.mp (nI_pos (by omega))) c_59)
                  refine lv_aload_n hx hb dX6_layWay_72 rfl (lv_at hl 0 rfl) ?_
                  refine lv_iload hx hb dX6_layWay_73 (lv_at hl 5 rfl) ?_
                  refine lv_iload hx hb dX6_layWay_75 (lv_at hl 7 rfl) ?_
                  refine q_kI0 (q_rV (As := [.int (nI (f)), .int (nI (t1))]) (rest := [.ref (ad 71)]) (x := 71) hC hW mw_X6_step gw_586 (k_step l G n ad H.size I1 L1 R _ _ (by omega) (by omega) w K ro hn hlk hN1) (by omega) (ct_o6 kd_71) rfl ⟨rfl, rfl⟩ ⟨Nat.le_of_ble_eq_true rfl, Nat.le_of_ble_eq_true rfl⟩ ⟨(Nat.le_of_ble_eq_true rfl), (Nat.le_of_ble_eq_true rfl)⟩ hl.1 rfl rfl (Nat.le_of_ble_eq_true rfl) dX6_layWay_77) hW (fun r_77 H locs hp hW => ?_)
                  subst hp
                  refine lv_iload hx hb dX6_layWay_80 (lv_at hl 7 rfl) ?_
                  refine lv_iload hx hb dX6_layWay_82 (lv_at hl 4 rfl) ?_
                  refine q_kI0 (q_rV (As := [.int (nI (w (f * 6 + t1))), .int (nI (t1)), .int (nI (d))]) (rest := []) (x := 71) hC hW mw_X6_going gw_590 (k_going l G n ad H.size I1 L1 R _ _ _ (hw3 _) (by omega) (by omega) w K ro hn hlk hN1) (by omega) (ct_o6 kd_71) rfl ⟨rfl, rfl⟩ ⟨Nat.le_of_ble_eq_true rfl, Nat.le_of_ble_eq_true rfl⟩ ⟨(Nat.le_of_ble_eq_true rfl), (Nat.le_of_ble_eq_true rfl)⟩ hl.1 rfl rfl (Nat.le_of_ble_eq_true rfl) dX6_layWay_84) hW (fun r_84 H locs hp hW => ?_)
                  subst hp
                  refine q_top (v2 := .int (nI (mv w K ro f t1 d))) rfl ?_
                  have hm9 := mv_le hw K ro f t1 d
                  refine q_i2l hx hb dX6_layWay_87 (by first | omega | exact Nat.lt_of_le_of_lt (hw3 _) (by decide)) ?_
                  refine lv_lstore (lv' := [(10, .long (lN (mv w K ro f t1 d))), (0, .ref (ad 71)), (1, .int (-6)), (2, .int (x2)), (3, .int (nI (a1))), (4, .int (nI (d))), (5, .int (nI (f))), (7, .long (lN (fM w ro K d f t1))), (9, .int (nI (t1)))]) hx hb dX6_layWay_88 hl (by decide) rfl (fun ls hl => ?_)
                  refine lv_lload hx hb dX6_layWay_90 (lv_at hl 0 rfl) ?_
                  refine q_lc 0 hx hb dX6_layWay_92 (by decide) ?_
                  refine q_lcmp hx hb dX6_layWay_93 ?_
                  refine q_lle (tgt := 121) hx hb dX6_layWay_94 (by decide) (by first | decide | omega | assumption) (by first | decide | omega | assumption) (fun c_94 => ?_) (fun c_94 => ?_)
                  ·
                    have hz1 : mv w K ro f t1 d = 0 := by omega
                    refine q_lc 0 hx hb dX6_layWay_121 (by decide) ?_
                    refine lv_lstore (lv' := [(12, .long (lN 0)), (10, .long (lN (mv w K ro f t1 d))), (0, .ref (ad 71)), (1, .int (-6)), (2, .int (x2)), (3, .int (nI (a1))), (4, .int (nI (d))), (5, .int (nI (f))), (7, .long (lN (fM w ro K d f t1))), (9, .int (nI (t1)))]) hx hb dX6_layWay_122 hl (by decide) rfl (fun ls hl => ?_)
                    refine lv_lload hx hb dX6_layWay_124 (lv_at hl 0 rfl) ?_
                    refine lv_lload hx hb dX6_layWay_126 (lv_at hl 8 rfl) ?_
                    refine q_lcmp hx hb dX6_layWay_128 ?_
                    refine q_lle (tgt := 137) hx hb dX6_layWay_129 (by decide) (by decide) (Nat.lt_of_le_of_lt (fM_b hw (r := ro) K d f t1 hk6) (by decide)) (fun c_129 => ?_) (fun c_129 => ?_)
                    ·
                      refine lv_lload hx hb dX6_layWay_137 (lv_at hl 8 rfl) ?_
                      refine q_top (v2 := .long (lN (fM w ro K d f (t1 + 1)))) (congrArg (fun z => Value.long (lN z)) (show fM w ro K d f t1 = fM w ro K d f (t1 + 1) from by have h9 := fM_n (w := w) (r := ro) (K := K) (d := d) (f := f) (i := t1) hz1; omega)) ?_
                      refine lv_lstore (lv' := [(7, .long (lN (fM w ro K d f (t1 + 1)))), (12, .long (lN 0)), (10, .long (lN (mv w K ro f t1 d))), (0, .ref (ad 71)), (1, .int (-6)), (2, .int (x2)), (3, .int (nI (a1))), (4, .int (nI (d))), (5, .int (nI (f))), (9, .int (nI (t1)))]) hx hb dX6_layWay_139 hl (by decide) rfl (fun ls hl => ?_)
                      refine q_iinc (z2 := t1 + 1) (lv' := [(9, .int (nI (t1 + 1))), (7, .long (lN (fM w ro K d f (t1 + 1)))), (12, .long (lN 0)), (10, .long (lN (mv w K ro f t1 d))), (0, .ref (ad 71)), (1, .int (-6)), (2, .int (x2)), (3, .int (nI (a1))), (4, .int (nI (d))), (5, .int (nI (f)))]) hx hb dX6_layWay_141 hl (k := 9) rfl (inc_up _ 1 (by decide)) (by decide) rfl (fun ls hl => ?_)
                      refine lv_goto (tgt := 49) hx hb dX6_layWay_144 (by decide) ?_
                      exact ih_49 (t1 + 1) (by omega) (by omega) _ _ hW _ (lv_sub hl [4, 5, 6, 7, 8, 9, 1, 0] rfl)
                    ·
                      refine lv_lload hx hb dX6_layWay_132 (lv_at hl 0 rfl) ?_
                      refine lv_goto (tgt := 139) hx hb dX6_layWay_134 (by decide) ?_
                      refine q_top (v2 := .long (lN (fM w ro K d f (t1 + 1)))) (congrArg (fun z => Value.long (lN z)) (show 0 = fM w ro K d f (t1 + 1) from by have h9 := fM_n (w := w) (r := ro) (K := K) (d := d) (f := f) (i := t1) hz1; omega)) ?_
                      refine lv_lstore (lv' := [(7, .long (lN (fM w ro K d f (t1 + 1)))), (12, .long (lN 0)), (10, .long (lN (mv w K ro f t1 d))), (0, .ref (ad 71)), (1, .int (-6)), (2, .int (x2)), (3, .int (nI (a1))), (4, .int (nI (d))), (5, .int (nI (f))), (9, .int (nI (t1)))]) hx hb dX6_layWay_139 hl (by decide) rfl (fun ls hl => ?_)
                      refine q_iinc (z2 := t1 + 1) (lv' := [(9, .int (nI (t1 + 1))), (7, .long (lN (fM w ro K d f (t1 + 1)))), (12, .long (lN 0)), (10, .long (lN (mv w K ro f t1 d))), (0, .ref (ad 71)), (1, .int (-6)), (2, .int (x2)), (3, .int (nI (a1))), (4, .int (nI (d))), (5, .int (nI (f)))]) hx hb dX6_layWay_141 hl (k := 9) rfl (inc_up _ 1 (by decide)) (by decide) rfl (fun ls hl => ?_)
                      refine lv_goto (tgt := 49) hx hb dX6_layWay_144 (by decide) ?_
                      exact ih_49 (t1 + 1) (by omega) (by omega) _ _ hW _ (lv_sub hl [4, 5, 6, 7, 8, 9, 1, 0] rfl)
                  ·
                    have hp1 : 0 < mv w K ro f t1 d := by omega
                    have hnx : nx t1 d ≤ K := nx_K2 hp1 (by omega)
                    have hmb := mM_lt hw (r := ro) K d f t1 hk6
                    refine lv_lload hx hb dX6_layWay_97 (lv_at hl 0 rfl) ?_
                    refine lv_aload_n hx hb dX6_layWay_99 rfl (lv_at hl 1 rfl) ?_
                    refine g_6_10 (x := 71) (y := 80) hC hW (by omega) kd_71 gw_493 (hlk 71 10 80 (by omega) rfl) dX6_layWay_100 ?_
                    refine q_bp 7 hx hb dX6_layWay_103 (by decide) ?_
                    refine lv_iload hx hb dX6_layWay_105 (lv_at hl 8 rfl) ?_
                    refine q_imul hx hb dX6_layWay_107 ?_
                    refine lv_iload hx hb dX6_layWay_108 (lv_at hl 8 rfl) ?_
                    refine lv_iload hx hb dX6_layWay_110 (lv_at hl 5 rfl) ?_
                    refine q_kI0 (q_rS (As := [.int (nI (t1)), .int (nI (d))]) (rest := [.int (nI (7 * t1)), .ref (ad 80), .long (lN (mv w K ro f t1 d))]) hC hW mw_X6_toldThen gw_598 (k_toldThen l G n ad H.size I1 L1 R _ _ (by omega) (by omega)) ⟨rfl, rfl⟩ ⟨Nat.le_of_ble_eq_true rfl, Nat.le_of_ble_eq_true rfl⟩ ⟨(Nat.le_of_ble_eq_true rfl), (Nat.le_of_ble_eq_true rfl)⟩ hl.1 rfl rfl (Nat.le_of_ble_eq_true rfl) dX6_layWay_112) hW (fun r_112 H locs hp hW => ?_)
                    subst hp
                    refine q_iadd hx hb dX6_layWay_115 ?_
                    refine q_lald (x := 80) (i := (7 * t1) + (nx t1 d)) hC hW (by omega) kd_80 (by omega) dX6_layWay_116 ?_
                    refine q_top (v2 := .long (lN (Mx' w K ro (K - (nx t1 d)) t1))) (congrArg _ (hB1 (nx t1 d) t1 (by omega) hnx (by omega)).2.1) ?_
                    refine q_lmul hx hb dX6_layWay_117 ?_
                    refine lv_goto (tgt := 122) hx hb dX6_layWay_118 (by decide) ?_
                    refine lv_lstore (lv' := [(12, .long (lN ((mv w K ro f t1 d) * (Mx' w K ro (K - (nx t1 d)) t1)))), (10, .long (lN (mv w K ro f t1 d))), (0, .ref (ad 71)), (1, .int (-6)), (2, .int (x2)), (3, .int (nI (a1))), (4, .int (nI (d))), (5, .int (nI (f))), (7, .long (lN (fM w ro K d f t1))), (9, .int (nI (t1)))]) hx hb dX6_layWay_122 hl (by decide) rfl (fun ls hl => ?_)
                    refine lv_lload hx hb dX6_layWay_124 (lv_at hl 0 rfl) ?_
                    refine lv_lload hx hb dX6_layWay_126 (lv_at hl 8 rfl) ?_
                    refine q_lcmp hx hb dX6_layWay_128 ?_
                    refine q_lle (tgt := 137) hx hb dX6_layWay_129 (by decide) hmb (Nat.lt_of_le_of_lt (fM_b hw (r := ro) K d f t1 hk6) (by decide)) (fun c_129 => ?_) (fun c_129 => ?_)
                    ·
                      refine lv_lload hx hb dX6_layWay_137 (lv_at hl 8 rfl) ?_
                      refine q_top (v2 := .long (lN (fM w ro K d f (t1 + 1)))) (congrArg (fun z => Value.long (lN z)) (show fM w ro K d f t1 = fM w ro K d f (t1 + 1) from by have h9 := fM_p (w := w) (r := ro) (K := K) (d := d) (f := f) (i := t1) hp1; omega)) ?_
                      refine lv_lstore (lv' := [(7, .long (lN (fM w ro K d f (t1 + 1)))), (12, .long (lN ((mv w K ro f t1 d) * (Mx' w K ro (K - (nx t1 d)) t1)))), (10, .long (lN (mv w K ro f t1 d))), (0, .ref (ad 71)), (1, .int (-6)), (2, .int (x2)), (3, .int (nI (a1))), (4, .int (nI (d))), (5, .int (nI (f))), (9, .int (nI (t1)))]) hx hb dX6_layWay_139 hl (by decide) rfl (fun ls hl => ?_)
                      refine q_iinc (z2 := t1 + 1) (lv' := [(9, .int (nI (t1 + 1))), (7, .long (lN (fM w ro K d f (t1 + 1)))), (12, .long (lN ((mv w K ro f t1 d) * (Mx' w K ro (K - (nx t1 d)) t1)))), (10, .long (lN (mv w K ro f t1 d))), (0, .ref (ad 71)), (1, .int (-6)), (2, .int (x2)), (3, .int (nI (a1))), (4, .int (nI (d))), (5, .int (nI (f)))]) hx hb dX6_layWay_141 hl (k := 9) rfl (inc_up _ 1 (by decide)) (by decide) rfl (fun ls hl => ?_)
                      refine lv_goto (tgt := 49) hx hb dX6_layWay_144 (by decide) ?_
                      exact ih_49 (t1 + 1) (by omega) (by omega) _ _ hW _ (lv_sub hl [4, 5, 6, 7, 8, 9, 1, 0] rfl)
                    ·
                      refine lv_lload hx hb dX6_layWay_132 (lv_at hl 0 rfl) ?_
                      refine lv_goto (tgt := 139) hx hb dX6_layWay_134 (by decide) ?_
                      refine q_top (v2 := .long (lN (fM w ro K d f (t1 + 1)))) (congrArg (fun z => Value.long (lN z)) (show (mv w K ro f t1 d) * (Mx' w K ro (K - (nx t1 d)) t1) = fM w ro K d f (t1 + 1) from by have h9 := fM_p (w := w) (r := ro) (K := K) (d := d) (f := f) (i := t1) hp1; omega)) ?_
                      refine lv_lstore (lv' := [(7, .long (lN (fM w ro K d f (t1 + 1)))), (12, .long (lN ((mv w K ro f t1 d) * (Mx' w K ro (K - (nx t1 d)) t1)))), (10, .long (lN (mv w K ro f t1 d))), (0, .ref (ad 71)), (1, .int (-6)), (2, .int (x2)), (3, .int (nI (a1))), (4, .int (nI (d))), (5, .int (nI (f))), (9, .int (nI (t1)))]) hx hb dX6_layWay_139 hl (by decide) rfl (fun ls hl => ?_)
                      refine q_iinc (z2 := t1 + 1) (lv' := [(9, .int (nI (t1 + 1))), (7, .long (lN (fM w ro K d f (t1 + 1)))), (12, .long (lN ((mv w K ro f t1 d) * (Mx' w K ro (K - (nx t1 d)) t1)))), (10, .long (lN (mv w K ro f t1 d))), (0, .ref (ad 71)), (1, .int (-6)), (2, .int (x2)), (3, .int (nI (a1))), (4, .int (nI (d))), (5, .int (nI (f)))]) hx hb dX6_layWay_141 hl (k := 9) rfl (inc_up _ 1 (by decide)) (by decide) rfl (fun ls hl => ?_)
                      refine lv_goto (tgt := 49) hx hb dX6_layWay_144 (by decide) ?_
                      exact ih_49 (t1 + 1) (by omega) (by omega) _ _ hW _ (lv_sub hl [4, 5, 6, 7, 8, 9, 1, 0] rfl)
            exact lp_49 (6 + 1) 0 (by omega) (by omega) _ _ hW _ (lv_sub hl [2, 3, 4, 5, 6, 7, 1, 0] rfl)
        ·
          have e6 : f = 6 := by have h9 := hNJ.2.2; omega
          subst e6
          have hl : lv_has ls 14 [(0, .ref (ad 71)), (1, .int (-6)), (2, .int (x2)), (3, .int (nI (a1))), (4, .int (nI (d))), (5, .int (-6)), (6, .int (bI (d = K)))] := hl
          refine lv_iload hx hb dX6_layWay_38 (lv_at hl 6 rfl) ?_
          refine lv_if_ne (tgt := 381) hx hb dX6_layWay_40 (by decide) (fun c_40 => ?_) (fun c_40 => ?_)
          ·
            have hdK : d = K := bI_1 (p := d = K) c_40
            refine lv_iload_n hx hb dX6_layWay_381 rfl (lv_at hl 3 rfl) ?_
            exact q_iret1 hC hW hr hlk0 ⟨congrArg nI (by rw [← hGI.1, byM_e (show K ≤ d by omega)]; rfl), FJ_e hF (byM_e (by omega)) (by have h9 := hNJ.1; omega), hF.2.2.1, hF.2.2.2.1, hF.2.2.2.2⟩ dX6_layWay_382
          ·
            have hdn : ¬ d = K := bI_0 (p := d = K) c_40
            have hdK : d < K := by have h9 := hNJ.2.1; omega
            have hs18 : s1 < 18 := NJ_lt hNJ hk6 hdK
            have hMf : fM w ro K d 6 6 = Mx' w K ro (K - d) 6 := (Mx_f hw K d 6 hdK).symm
            have hCf : Cx' w K ro (K - d) 6 = fC w ro K d 6 6 := Cx_f hw K d 6 hdK
            have hCb := Cx_b hw (r := ro) K (K - d) 6 (by omega)
            refine q_lc 0 hx hb dX6_layWay_43 (by decide) ?_
            refine lv_lstore (lv' := [(7, .long (lN 0)), (0, .ref (ad 71)), (1, .int (-6)), (2, .int (x2)), (3, .int (nI (a1))), (4, .int (nI (d))), (5, .int (-6)), (6, .int (bI (d = K)))]) hx hb dX6_layWay_44 hl (by decide) rfl (fun ls hl => ?_)
            refine q_ic 0 hx hb dX6_layWay_46 (by decide) ?_
            refine lv_istore (lv' := [(9, .int (nI 0)), (7, .long (lN 0)), (0, .ref (ad 71)), (1, .int (-6)), (2, .int (x2)), (3, .int (nI (a1))), (4, .int (nI (d))), (5, .int (-6)), (6, .int (bI (d = K)))]) hx hb dX6_layWay_47 hl (by decide) rfl (fun ls hl => ?_)
            have lp_49 : ∀ (fu_49 : Nat) (t1 : Nat), 6 - t1 < fu_49 → (t1 ≤ 6) → ∀ (H : Heap) (locs : List Loc), Wd G n ad I1 L1 R (qA n ad s.heap.size) s.heap H locs s → ∀ ls : Array Slot, lv_has ls 14 [(0, .ref (ad 71)), (1, .int (-6)), (2, .int (x2)), (3, .int (nI (a1))), (4, .int (nI (d))), (5, .int (-6)), (7, .long (lN (fM w ro K d 6 t1))), (9, .int (nI (t1)))] → W p_ l e_ ({ frames := 2, cells := 0, slots := 0, locals := 72 } : Room) s m_ ([.ref (ad 71), .int (-6)] : List Value).toArray below meth c_ H locs 0 0 (MQ below (qI1 G (qA n ad s.heap.size) n ad R (fun z I1 L1 => z = nI (rkN w ro K 0 6 (wayM w ro K)) ∧ FoB (wayM w ro K) (prN w ro K 0 6 (wayM w ro K)) I1 L1 ∧ (∀ a, a ≠ 71 → a ≠ 81 → I1 a = I a) ∧ (∀ j, j ≠ 12 → I1 71 j = I 71 j) ∧ (∀ a, a ≠ 71 → L1 a = L a))) ([.ref (ad 71), .int (-6)] : List Value).toArray s 0 0 (qA n ad s.heap.size)) (F0 m_ 49 ls []) := by
              intro fu_49
              induction fu_49 with
              | zero =>
                intro t1 hm; exact absurd hm (Nat.not_lt_zero _)
              | succ fu_49 ih_49 =>
                intro t1 hm_49 ht6 H locs hW ls hl
                refine lv_iload hx hb dX6_layWay_49 (lv_at hl 7 rfl) ?_
                refine q_bp 6 hx hb dX6_layWay_51 (by decide) ?_
                refine q_cge (tgt := 147) hx hb dX6_layWay_53 (by decide) (by first | omega | exact Nat.lt_of_le_of_lt (hw3 _) (by decide)) (by first | omega | exact Nat.lt_of_le_of_lt (hw3 _) (by decide)) (fun c_53 => ?_) (fun c_53 => ?_)
                ·
                  have e6 : t1 = 6 := by omega
                  subst e6
                  refine q_ic 0 hx hb dX6_layWay_147 (by decide) ?_
                  refine lv_istore (lv' := [(9, .int (nI 0)), (0, .ref (ad 71)), (1, .int (-6)), (2, .int (x2)), (3, .int (nI (a1))), (4, .int (nI (d))), (5, .int (-6)), (7, .long (lN (fM w ro K d 6 6)))]) hx hb dX6_layWay_148 hl (by decide) rfl (fun ls hl => ?_)
                  refine q_ic 0 hx hb dX6_layWay_150 (by decide) ?_
                  refine lv_istore (lv' := [(10, .int (nI 0)), (9, .int (nI 0)), (0, .ref (ad 71)), (1, .int (-6)), (2, .int (x2)), (3, .int (nI (a1))), (4, .int (nI (d))), (5, .int (-6)), (7, .long (lN (fM w ro K d 6 6)))]) hx hb dX6_layWay_151 hl (by decide) rfl (fun ls hl => ?_)
                  have lp_153 : ∀ (fu_153 : Nat) (t1 : Nat) (x3 : Int32), 6 - t1 < fu_153 → (t1 ≤ 6) → (∀ i, i < t1 → ¬ okM w ro K d 6 i = true) → ∀ (H : Heap) (locs : List Loc), Wd G n ad I1 L1 R (qA n ad s.heap.size) s.heap H locs s → ∀ ls : Array Slot, lv_has ls 14 [(0, .ref (ad 71)), (1, .int (-6)), (2, .int (x3)), (3, .int (nI (a1 + fC w ro K d 6 t1))), (4, .int (nI (d))), (5, .int (-6)), (7, .long (lN (fM w ro K d 6 6))), (9, .int (nI 0)), (10, .int (nI (t1)))] → W p_ l e_ ({ frames := 2, cells := 0, slots := 0, locals := 72 } : Room) s m_ ([.ref (ad 71), .int (-6)] : List Value).toArray below meth c_ H locs 0 0 (MQ below (qI1 G (qA n ad s.heap.size) n ad R (fun z I1 L1 => z = nI (rkN w ro K 0 6 (wayM w ro K)) ∧ FoB (wayM w ro K) (prN w ro K 0 6 (wayM w ro K)) I1 L1 ∧ (∀ a, a ≠ 71 → a ≠ 81 → I1 a = I a) ∧ (∀ j, j ≠ 12 → I1 71 j = I 71 j) ∧ (∀ a, a ≠ 71 → L1 a = L a))) ([.ref (ad 71), .int (-6)] : List Value).toArray s 0 0 (qA n ad s.heap.size)) (F0 m_ 153 ls []) := by
                    intro fu_153
                    induction fu_153 with
                    | zero =>
                      intro t1 x3 hm; exact absurd hm (Nat.not_lt_zero _)
                    | succ fu_153 ih_153 =>
                      intro t1 x3 hm_153 ht6 hno H locs hW ls hl
                      refine lv_iload hx hb dX6_layWay_153 (lv_at hl 8 rfl) ?_
                      refine q_bp 6 hx hb dX6_layWay_155 (by decide) ?_
                      refine q_cge (tgt := 353) hx hb dX6_layWay_157 (by decide) (by first | omega | exact Nat.lt_of_le_of_lt (hw3 _) (by decide)) (by first | omega | exact Nat.lt_of_le_of_lt (hw3 _) (by decide)) (fun c_157 => absurd (chM_ok hw hdK hGI.2) (hno _ (by have h9 := chM_lt w ro K d 6; omega))) (fun c_157 => ?_)
                      refine lv_iload hx hb dX6_layWay_160 (lv_at hl 7 rfl) ?_
                      refine q_ine (tgt := 353) hx hb dX6_layWay_162 (by decide) (by first | omega | exact Nat.lt_of_le_of_lt (hw3 _) (by decide)) (fun c_162 => absurd c_162 (by decide)) (fun c_162 => ?_)
                      refine lv_aload_n hx hb dX6_layWay_165 rfl (lv_at hl 0 rfl) ?_
                      refine lv_iload hx hb dX6_layWay_166 (lv_at hl 5 rfl) ?_
                      refine lv_if_ge (tgt := 181) hx hb dX6_layWay_168 (by decide) (fun c_168 => absurd c_168 (by decide)) (fun c_168 => ?_)
                      refine lv_aload_n hx hb dX6_layWay_171 rfl (lv_at hl 0 rfl) ?_
                      refine g_6_0 (x := 71) (y := 72) hC hW (by omega) kd_71 gw_483 (hlk 71 0 72 (by omega) rfl) dX6_layWay_172 ?_
                      refine lv_iload hx hb dX6_layWay_175 (lv_at hl 8 rfl) ?_
                      refine q_iald (x := 72) (i := t1) hC hW (by omega) kd_72 (by omega) dX6_layWay_177 ?_
                      refine q_top (v2 := .int (nI (w (6 * 6 + t1)))) (congrArg _ ((hN1.1 _ (by omega)).trans (congrArg nI (rwt_b w (by omega))))) ?_
                      refine lv_goto (tgt := 189) hx hb dX6_layWay_178 (by decide) ?_
                      refine lv_iload hx hb dX6_layWay_189 (lv_at hl 8 rfl) ?_
                      refine lv_iload hx hb dX6_layWay_191 (lv_at hl 4 rfl) ?_
                      refine q_kI0 (q_rV (As := [.int (nI (w (6 * 6 + t1))), .int (nI (t1)), .int (nI (d))]) (rest := []) (x := 71) hC hW mw_X6_going gw_590 (k_going l G n ad H.size I1 L1 R _ _ _ (hw3 _) (by omega) (by omega) w K ro hn hlk hN1) (by omega) (ct_o6 kd_71) rfl ⟨rfl, rfl⟩ ⟨Nat.le_of_ble_eq_true rfl, Nat.le_of_ble_eq_true rfl⟩ ⟨(Nat.le_of_ble_eq_true rfl), (Nat.le_of_ble_eq_true rfl)⟩ hl.1 rfl rfl (Nat.le_of_ble_eq_true rfl) dX6_layWay_193) hW (fun r_193 H locs hp hW => ?_)
                      subst hp
                      refine q_top (v2 := .int (nI (mv w K ro 6 t1 d))) rfl ?_
                      have hm9 := mv_le hw K ro 6 t1 d
                      refine lv_istore (lv' := [(11, .int (nI (mv w K ro 6 t1 d))), (0, .ref (ad 71)), (1, .int (-6)), (2, .int (x3)), (3, .int (nI (a1 + fC w ro K d 6 t1))), (4, .int (nI (d))), (5, .int (-6)), (7, .long (lN (fM w ro K d 6 6))), (9, .int (nI 0)), (10, .int (nI (t1)))]) hx hb dX6_layWay_196 hl (by decide) rfl (fun ls hl => ?_)
                      refine q_bp 7 hx hb dX6_layWay_198 (by decide) ?_
                      refine lv_iload hx hb dX6_layWay_200 (lv_at hl 9 rfl) ?_
                      refine q_imul hx hb dX6_layWay_202 ?_
                      refine lv_iload hx hb dX6_layWay_203 (lv_at hl 9 rfl) ?_
                      refine lv_iload hx hb dX6_layWay_205 (lv_at hl 5 rfl) ?_
                      refine q_kI0 (q_rS (As := [.int (nI (t1)), .int (nI (d))]) (rest := [.int (nI (7 * t1))]) hC hW mw_X6_toldThen gw_598 (k_toldThen l G n ad H.size I1 L1 R _ _ (by omega) (by omega)) ⟨rfl, rfl⟩ ⟨Nat.le_of_ble_eq_true rfl, Nat.le_of_ble_eq_true rfl⟩ ⟨(Nat.le_of_ble_eq_true rfl), (Nat.le_of_ble_eq_true rfl)⟩ hl.1 rfl rfl (Nat.le_of_ble_eq_true rfl) dX6_layWay_207) hW (fun r_207 H locs hp hW => ?_)
                      subst hp
                      refine q_iadd hx hb dX6_layWay_210 ?_
                      refine lv_istore (lv' := [(12, .int (nI ((7 * t1) + (nx t1 d)))), (11, .int (nI (mv w K ro 6 t1 d))), (0, .ref (ad 71)), (1, .int (-6)), (2, .int (x3)), (3, .int (nI (a1 + fC w ro K d 6 t1))), (4, .int (nI (d))), (5, .int (-6)), (7, .long (lN (fM w ro K d 6 6))), (9, .int (nI 0)), (10, .int (nI (t1)))]) hx hb dX6_layWay_211 hl (by decide) rfl (fun ls hl => ?_)
                      refine lv_iload hx hb dX6_layWay_213 (lv_at hl 1 rfl) ?_
                      refine q_ile (tgt := 228) hx hb dX6_layWay_215 (by decide) (by first | omega | exact Nat.lt_of_le_of_lt (hw3 _) (by decide)) (fun c_215 => ?_) (fun c_215 => ?_)
                      ·
                        have hz1 : mv w K ro 6 t1 d = 0 := by omega
                        refine q_ic 0 hx hb dX6_layWay_228 (by decide) ?_
                        have hrb := rtN_b hw (r := ro) (K := K) (d := d) (f := 6) (t := t1) hk6
                        refine q_top (v2 := .int (nI (rtN w ro K d 6 t1))) (by rw [rt_n hz1]) ?_
                        refine lv_istore (lv' := [(13, .int (nI (rtN w ro K d 6 t1))), (12, .int (nI ((7 * t1) + (nx t1 d)))), (11, .int (nI (mv w K ro 6 t1 d))), (0, .ref (ad 71)), (1, .int (-6)), (2, .int (x3)), (3, .int (nI (a1 + fC w ro K d 6 t1))), (4, .int (nI (d))), (5, .int (-6)), (7, .long (lN (fM w ro K d 6 6))), (9, .int (nI 0)), (10, .int (nI (t1)))]) hx hb dX6_layWay_229 hl (by decide) rfl (fun ls hl => ?_)
                        refine lv_iload_n hx hb dX6_layWay_231 rfl (lv_at hl 4 rfl) ?_
                        refine lv_if_ge (tgt := 270) hx hb dX6_layWay_232 (by decide) (fun c_232 => absurd c_232 (by decide)) (fun c_232 => ?_)
                        refine lv_iload hx hb dX6_layWay_235 (lv_at hl 2 rfl) ?_
                        refine q_ile (tgt := 266) hx hb dX6_layWay_237 (by decide) (by first | omega | exact Nat.lt_of_le_of_lt (hw3 _) (by decide)) (fun c_237 => ?_) (fun c_237 => absurd c_237 (by omega))
                        refine q_ic 0 hx hb dX6_layWay_266 (by decide) ?_
                        refine lv_goto (tgt := 281) hx hb dX6_layWay_267 (by decide) ?_
                        have hnot : ¬ okM w ro K d 6 t1 = true := fun q9 => by have h8 := (okM_iff.mp q9).1; rw [rt_n hz1] at h8; omega
                        refine lv_istore (lv' := [(9, .int (nI 0)), (13, .int (nI (rtN w ro K d 6 t1))), (12, .int (nI ((7 * t1) + (nx t1 d)))), (11, .int (nI (mv w K ro 6 t1 d))), (0, .ref (ad 71)), (1, .int (-6)), (2, .int (x3)), (3, .int (nI (a1 + fC w ro K d 6 t1))), (4, .int (nI (d))), (5, .int (-6)), (7, .long (lN (fM w ro K d 6 6))), (10, .int (nI (t1)))]) hx hb dX6_layWay_281 hl (by decide) rfl (fun ls hl => ?_)
                        refine lv_iload hx hb dX6_layWay_283 (lv_at hl 0 rfl) ?_
                        refine q_ieq (tgt := 337) hx hb dX6_layWay_285 (by decide) (by first | omega | exact Nat.lt_of_le_of_lt (hw3 _) (by decide)) (fun c_285 => ?_) (fun c_285 => absurd c_285 (by decide))
                        refine lv_iload_n hx hb dX6_layWay_337 rfl (lv_at hl 6 rfl) ?_
                        refine lv_iload hx hb dX6_layWay_338 (lv_at hl 1 rfl) ?_
                        refine lv_isub hx hb dX6_layWay_340 ?_
                        refine lv_istore_n (lv' := [(2, .int (x3 - (nI (rtN w ro K d 6 t1)))), (9, .int (nI 0)), (13, .int (nI (rtN w ro K d 6 t1))), (12, .int (nI ((7 * t1) + (nx t1 d)))), (11, .int (nI (mv w K ro 6 t1 d))), (0, .ref (ad 71)), (1, .int (-6)), (3, .int (nI (a1 + fC w ro K d 6 t1))), (4, .int (nI (d))), (5, .int (-6)), (7, .long (lN (fM w ro K d 6 6))), (10, .int (nI (t1)))]) hx hb dX6_layWay_341 rfl hl (by decide) rfl (fun ls hl => ?_)
                        refine lv_iload_n hx hb dX6_layWay_342 rfl (lv_at hl 7 rfl) ?_
                        refine lv_iload hx hb dX6_layWay_343 (lv_at hl 2 rfl) ?_
                        refine q_iadd hx hb dX6_layWay_345 ?_
                        refine q_top (v2 := .int (nI (a1 + fC w ro K d 6 (t1 + 1)))) (by rw [fC_s, Nat.add_assoc]) ?_
                        refine lv_istore_n (lv' := [(3, .int (nI (a1 + fC w ro K d 6 (t1 + 1)))), (2, .int (x3 - (nI (rtN w ro K d 6 t1)))), (9, .int (nI 0)), (13, .int (nI (rtN w ro K d 6 t1))), (12, .int (nI ((7 * t1) + (nx t1 d)))), (11, .int (nI (mv w K ro 6 t1 d))), (0, .ref (ad 71)), (1, .int (-6)), (4, .int (nI (d))), (5, .int (-6)), (7, .long (lN (fM w ro K d 6 6))), (10, .int (nI (t1)))]) hx hb dX6_layWay_346 rfl hl (by decide) rfl (fun ls hl => ?_)
                        refine q_iinc (z2 := t1 + 1) (lv' := [(10, .int (nI (t1 + 1))), (3, .int (nI (a1 + fC w ro K d 6 (t1 + 1)))), (2, .int (x3 - (nI (rtN w ro K d 6 t1)))), (9, .int (nI 0)), (13, .int (nI (rtN w ro K d 6 t1))), (12, .int (nI ((7 * t1) + (nx t1 d)))), (11, .int (nI (mv w K ro 6 t1 d))), (0, .ref (ad 71)), (1, .int (-6)), (4, .int (nI (d))), (5, .int (-6)), (7, .long (lN (fM w ro K d 6 6)))]) hx hb dX6_layWay_347 hl (k := 11) rfl (inc_up _ 1 (by decide)) (by decide) rfl (fun ls hl => ?_)
                        refine lv_goto (tgt := 153) hx hb dX6_layWay_350 (by decide) ?_
                        exact ih_153 (t1 + 1) (x3 - (nI (rtN w ro K d 6 t1))) (by omega) (by omega) (fun i hi => by by_cases e9 : i = t1; (rw [e9]; exact hnot); exact hno i (by omega)) _ _ hW _ (lv_sub hl [7, 8, 2, 1, 9, 10, 11, 3, 0] rfl)
                      ·
                        have hp1 : 0 < mv w K ro 6 t1 d := by omega
                        have hnx : nx t1 d ≤ K := nx_K2 hp1 (by omega)
                        have hmb := mM_lt hw (r := ro) K d 6 t1 hk6
                        refine lv_aload_n hx hb dX6_layWay_218 rfl (lv_at hl 2 rfl) ?_
                        refine g_6_9 (x := 71) (y := 79) hC hW (by omega) kd_71 gw_492 (hlk 71 9 79 (by omega) rfl) dX6_layWay_219 ?_
                        refine lv_iload hx hb dX6_layWay_222 (lv_at hl 0 rfl) ?_
                        refine q_iald (x := 79) (i := (7 * t1) + (nx t1 d)) hC hW (by omega) kd_79 (by omega) dX6_layWay_224 ?_
                        refine q_top (v2 := .int (nI (Cx' w K ro (K - (nx t1 d)) t1))) (congrArg _ (hB1 (nx t1 d) t1 (by omega) hnx (by omega)).2.2) ?_
                        refine lv_goto (tgt := 229) hx hb dX6_layWay_225 (by decide) ?_
                        have hrb := rtN_b hw (r := ro) (K := K) (d := d) (f := 6) (t := t1) hk6
                        refine q_top (v2 := .int (nI (rtN w ro K d 6 t1))) (by rw [rt_p hp1]) ?_
                        refine lv_istore (lv' := [(13, .int (nI (rtN w ro K d 6 t1))), (12, .int (nI ((7 * t1) + (nx t1 d)))), (11, .int (nI (mv w K ro 6 t1 d))), (0, .ref (ad 71)), (1, .int (-6)), (2, .int (x3)), (3, .int (nI (a1 + fC w ro K d 6 t1))), (4, .int (nI (d))), (5, .int (-6)), (7, .long (lN (fM w ro K d 6 6))), (9, .int (nI 0)), (10, .int (nI (t1)))]) hx hb dX6_layWay_229 hl (by decide) rfl (fun ls hl => ?_)
                        refine lv_iload_n hx hb dX6_layWay_231 rfl (lv_at hl 4 rfl) ?_
                        refine lv_if_ge (tgt := 270) hx hb dX6_layWay_232 (by decide) (fun c_232 => absurd c_232 (by decide)) (fun c_232 => ?_)
                        refine lv_iload hx hb dX6_layWay_235 (lv_at hl 2 rfl) ?_
                        refine q_ile (tgt := 266) hx hb dX6_layWay_237 (by decide) (by first | omega | exact Nat.lt_of_le_of_lt (hw3 _) (by decide)) (fun c_237 => absurd c_237 (by omega)) (fun c_237 => ?_)
                        refine lv_iload hx hb dX6_layWay_240 (lv_at hl 2 rfl) ?_
                        refine q_i2l hx hb dX6_layWay_242 (by first | omega | exact Nat.lt_of_le_of_lt (hw3 _) (by decide)) ?_
                        refine lv_aload_n hx hb dX6_layWay_243 rfl (lv_at hl 3 rfl) ?_
                        refine g_6_10 (x := 71) (y := 80) hC hW (by omega) kd_71 gw_493 (hlk 71 10 80 (by omega) rfl) dX6_layWay_244 ?_
                        refine lv_iload hx hb dX6_layWay_247 (lv_at hl 1 rfl) ?_
                        refine q_lald (x := 80) (i := (7 * t1) + (nx t1 d)) hC hW (by omega) kd_80 (by omega) dX6_layWay_249 ?_
                        refine q_top (v2 := .long (lN (Mx' w K ro (K - (nx t1 d)) t1))) (congrArg _ (hB1 (nx t1 d) t1 (by omega) hnx (by omega)).2.1) ?_
                        refine q_lmul hx hb dX6_layWay_250 ?_
                        refine lv_lload hx hb dX6_layWay_251 (lv_at hl 9 rfl) ?_
                        refine q_lcmp hx hb dX6_layWay_253 ?_
                        refine q_lne (tgt := 266) hx hb dX6_layWay_254 (by decide) hmb (Nat.lt_of_le_of_lt (fM_b hw (r := ro) K d 6 6 hk6) (by decide)) (fun c_254 => ?_) (fun c_254 => ?_)
                        ·
                          refine q_ic 0 hx hb dX6_layWay_266 (by decide) ?_
                          refine lv_goto (tgt := 281) hx hb dX6_layWay_267 (by decide) ?_
                          have hnot : ¬ okM w ro K d 6 t1 = true := fun q9 => by have h9 := okM_iff.mp q9; have h8 := h9.1; first | omega | exact absurd (h9.2.trans hMf.symm) c_254
                          refine lv_istore (lv' := [(9, .int (nI 0)), (13, .int (nI (rtN w ro K d 6 t1))), (12, .int (nI ((7 * t1) + (nx t1 d)))), (11, .int (nI (mv w K ro 6 t1 d))), (0, .ref (ad 71)), (1, .int (-6)), (2, .int (x3)), (3, .int (nI (a1 + fC w ro K d 6 t1))), (4, .int (nI (d))), (5, .int (-6)), (7, .long (lN (fM w ro K d 6 6))), (10, .int (nI (t1)))]) hx hb dX6_layWay_281 hl (by decide) rfl (fun ls hl => ?_)
                          refine lv_iload hx hb dX6_layWay_283 (lv_at hl 0 rfl) ?_
                          refine q_ieq (tgt := 337) hx hb dX6_layWay_285 (by decide) (by first | omega | exact Nat.lt_of_le_of_lt (hw3 _) (by decide)) (fun c_285 => ?_) (fun c_285 => absurd c_285 (by decide))
                          refine lv_iload_n hx hb dX6_layWay_337 rfl (lv_at hl 6 rfl) ?_
                          refine lv_iload hx hb dX6_layWay_338 (lv_at hl 1 rfl) ?_
                          refine lv_isub hx hb dX6_layWay_340 ?_
                          refine lv_istore_n (lv' := [(2, .int (x3 - (nI (rtN w ro K d 6 t1)))), (9, .int (nI 0)), (13, .int (nI (rtN w ro K d 6 t1))), (12, .int (nI ((7 * t1) + (nx t1 d)))), (11, .int (nI (mv w K ro 6 t1 d))), (0, .ref (ad 71)), (1, .int (-6)), (3, .int (nI (a1 + fC w ro K d 6 t1))), (4, .int (nI (d))), (5, .int (-6)), (7, .long (lN (fM w ro K d 6 6))), (10, .int (nI (t1)))]) hx hb dX6_layWay_341 rfl hl (by decide) rfl (fun ls hl => ?_)
                          refine lv_iload_n hx hb dX6_layWay_342 rfl (lv_at hl 7 rfl) ?_
                          refine lv_iload hx hb dX6_layWay_343 (lv_at hl 2 rfl) ?_
                          refine q_iadd hx hb dX6_layWay_345 ?_
                          refine q_top (v2 := .int (nI (a1 + fC w ro K d 6 (t1 + 1)))) (by rw [fC_s, Nat.add_assoc]) ?_
                          refine lv_istore_n (lv' := [(3, .int (nI (a1 + fC w ro K d 6 (t1 + 1)))), (2, .int (x3 - (nI (rtN w ro K d 6 t1)))), (9, .int (nI 0)), (13, .int (nI (rtN w ro K d 6 t1))), (12, .int (nI ((7 * t1) + (nx t1 d)))), (11, .int (nI (mv w K ro 6 t1 d))), (0, .ref (ad 71)), (1, .int (-6)), (4, .int (nI (d))), (5, .int (-6)), (7, .long (lN (fM w ro K d 6 6))), (10, .int (nI (t1)))]) hx hb dX6_layWay_346 rfl hl (by decide) rfl (fun ls hl => ?_)
                          refine q_iinc (z2 := t1 + 1) (lv' := [(10, .int (nI (t1 + 1))), (3, .int (nI (a1 + fC w ro K d 6 (t1 + 1)))), (2, .int (x3 - (nI (rtN w ro K d 6 t1)))), (9, .int (nI 0)), (13, .int (nI (rtN w ro K d 6 t1))), (12, .int (nI ((7 * t1) + (nx t1 d)))), (11, .int (nI (mv w K ro 6 t1 d))), (0, .ref (ad 71)), (1, .int (-6)), (4, .int (nI (d))), (5, .int (-6)), (7, .long (lN (fM w ro K d 6 6)))]) hx hb dX6_layWay_347 hl (k := 11) rfl (inc_up _ 1 (by decide)) (by decide) rfl (fun ls hl => ?_)
                          refine lv_goto (tgt := 153) hx hb dX6_layWay_350 (by decide) ?_
                          exact ih_153 (t1 + 1) (x3 - (nI (rtN w ro K d 6 t1))) (by omega) (by omega) (fun i hi => by by_cases e9 : i = t1; (rw [e9]; exact hnot); exact hno i (by omega)) _ _ hW _ (lv_sub hl [7, 8, 2, 1, 9, 10, 11, 3, 0] rfl)
                        ·
                          refine lv_iload hx hb dX6_layWay_257 (lv_at hl 0 rfl) ?_
                          refine q_ile (tgt := 266) hx hb dX6_layWay_259 (by decide) (by first | omega | exact Nat.lt_of_le_of_lt (hw3 _) (by decide)) (fun c_259 => ?_) (fun c_259 => ?_)
                          ·
                            refine q_ic 0 hx hb dX6_layWay_266 (by decide) ?_
                            refine lv_goto (tgt := 281) hx hb dX6_layWay_267 (by decide) ?_
                            have hnot : ¬ okM w ro K d 6 t1 = true := fun q9 => by have h9 := okM_iff.mp q9; have h8 := h9.1; first | omega | exact absurd (h9.2.trans hMf.symm) c_254
                            refine lv_istore (lv' := [(9, .int (nI 0)), (13, .int (nI (rtN w ro K d 6 t1))), (12, .int (nI ((7 * t1) + (nx t1 d)))), (11, .int (nI (mv w K ro 6 t1 d))), (0, .ref (ad 71)), (1, .int (-6)), (2, .int (x3)), (3, .int (nI (a1 + fC w ro K d 6 t1))), (4, .int (nI (d))), (5, .int (-6)), (7, .long (lN (fM w ro K d 6 6))), (10, .int (nI (t1)))]) hx hb dX6_layWay_281 hl (by decide) rfl (fun ls hl => ?_)
                            refine lv_iload hx hb dX6_layWay_283 (lv_at hl 0 rfl) ?_
                            refine q_ieq (tgt := 337) hx hb dX6_layWay_285 (by decide) (by first | omega | exact Nat.lt_of_le_of_lt (hw3 _) (by decide)) (fun c_285 => ?_) (fun c_285 => absurd c_285 (by decide))
                            refine lv_iload_n hx hb dX6_layWay_337 rfl (lv_at hl 6 rfl) ?_
                            refine lv_iload hx hb dX6_layWay_338 (lv_at hl 1 rfl) ?_
                            refine lv_isub hx hb dX6_layWay_340 ?_
                            refine lv_istore_n (lv' := [(2, .int (x3 - (nI (rtN w ro K d 6 t1)))), (9, .int (nI 0)), (13, .int (nI (rtN w ro K d 6 t1))), (12, .int (nI ((7 * t1) + (nx t1 d)))), (11, .int (nI (mv w K ro 6 t1 d))), (0, .ref (ad 71)), (1, .int (-6)), (3, .int (nI (a1 + fC w ro K d 6 t1))), (4, .int (nI (d))), (5, .int (-6)), (7, .long (lN (fM w ro K d 6 6))), (10, .int (nI (t1)))]) hx hb dX6_layWay_341 rfl hl (by decide) rfl (fun ls hl => ?_)
                            refine lv_iload_n hx hb dX6_layWay_342 rfl (lv_at hl 7 rfl) ?_
                            refine lv_iload hx hb dX6_layWay_343 (lv_at hl 2 rfl) ?_
                            refine q_iadd hx hb dX6_layWay_345 ?_
                            refine q_top (v2 := .int (nI (a1 + fC w ro K d 6 (t1 + 1)))) (by rw [fC_s, Nat.add_assoc]) ?_
                            refine lv_istore_n (lv' := [(3, .int (nI (a1 + fC w ro K d 6 (t1 + 1)))), (2, .int (x3 - (nI (rtN w ro K d 6 t1)))), (9, .int (nI 0)), (13, .int (nI (rtN w ro K d 6 t1))), (12, .int (nI ((7 * t1) + (nx t1 d)))), (11, .int (nI (mv w K ro 6 t1 d))), (0, .ref (ad 71)), (1, .int (-6)), (4, .int (nI (d))), (5, .int (-6)), (7, .long (lN (fM w ro K d 6 6))), (10, .int (nI (t1)))]) hx hb dX6_layWay_346 rfl hl (by decide) rfl (fun ls hl => ?_)
                            refine q_iinc (z2 := t1 + 1) (lv' := [(10, .int (nI (t1 + 1))), (3, .int (nI (a1 + fC w ro K d 6 (t1 + 1)))), (2, .int (x3 - (nI (rtN w ro K d 6 t1)))), (9, .int (nI 0)), (13, .int (nI (rtN w ro K d 6 t1))), (12, .int (nI ((7 * t1) + (nx t1 d)))), (11, .int (nI (mv w K ro 6 t1 d))), (0, .ref (ad 71)), (1, .int (-6)), (4, .int (nI (d))), (5, .int (-6)), (7, .long (lN (fM w ro K d 6 6)))]) hx hb dX6_layWay_347 hl (k := 11) rfl (inc_up _ 1 (by decide)) (by decide) rfl (fun ls hl => ?_)
                            refine lv_goto (tgt := 153) hx hb dX6_layWay_350 (by decide) ?_
                            exact ih_153 (t1 + 1) (x3 - (nI (rtN w ro K d 6 t1))) (by omega) (by omega) (fun i hi => by by_cases e9 : i = t1; (rw [e9]; exact hnot); exact hno i (by omega)) _ _ hW _ (lv_sub hl [7, 8, 2, 1, 9, 10, 11, 3, 0] rfl)
                          ·
                            refine q_ic 1 hx hb dX6_layWay_262 (by decide) ?_
                            refine lv_goto (tgt := 281) hx hb dX6_layWay_263 (by decide) ?_
                            have hok : okM w ro K d 6 t1 = true := okM_iff.mpr ⟨by omega, (show mv w K ro 6 t1 d * Mx' w K ro (K - nx t1 d) t1 = _ from c_254).trans hMf⟩
                            refine lv_istore (lv' := [(9, .int (nI 1)), (13, .int (nI (rtN w ro K d 6 t1))), (12, .int (nI ((7 * t1) + (nx t1 d)))), (11, .int (nI (mv w K ro 6 t1 d))), (0, .ref (ad 71)), (1, .int (-6)), (2, .int (x3)), (3, .int (nI (a1 + fC w ro K d 6 t1))), (4, .int (nI (d))), (5, .int (-6)), (7, .long (lN (fM w ro K d 6 6))), (10, .int (nI (t1)))]) hx hb dX6_layWay_281 hl (by decide) rfl (fun ls hl => ?_)
                            refine lv_iload hx hb dX6_layWay_283 (lv_at hl 0 rfl) ?_
                            refine q_ieq (tgt := 337) hx hb dX6_layWay_285 (by decide) (by first | omega | exact Nat.lt_of_le_of_lt (hw3 _) (by decide)) (fun c_285 => absurd c_285 (by decide)) (fun c_285 => ?_)
                            refine lv_aload_n hx hb dX6_layWay_288 rfl (lv_at hl 4 rfl) ?_
                            refine g_6_11 (x := 71) (y := 81) hC hW (by omega) kd_71 gw_494 (hlk 71 11 81 (by omega) rfl) dX6_layWay_289 ?_
                            refine lv_aload_n hx hb dX6_layWay_292 rfl (lv_at hl 4 rfl) ?_
                            refine g_6_12 (x := 71) hC hW (by omega) kd_71 gw_495 dX6_layWay_293 ?_
                            refine q_top (v2 := .int (nI (s1))) (congrArg _ hF.2.1) ?_
                            refine lv_iload hx hb dX6_layWay_296 (lv_at hl 11 rfl) ?_
                            refine q_iast (x := 81) (i := s1) (v := nI t1) hC hW (by omega) kd_81 (by omega) dX6_layWay_298 (fun H locs hW => ?_)
                            refine lv_aload_n hx hb dX6_layWay_299 rfl (lv_at hl 4 rfl) ?_
                            refine lv_dup hx hb dX6_layWay_300 rfl ?_
                            refine g_6_12 (x := 71) hC hW (by omega) kd_71 gw_495 dX6_layWay_301 ?_
                            refine q_top (v2 := .int (nI (s1))) (congrArg _ (by rw [up2_ne (by decide)]; exact hF.2.1)) ?_
                            refine q_ic 1 hx hb dX6_layWay_304 (by decide) ?_
                            refine q_iadd hx hb dX6_layWay_305 ?_
                            refine p_6_12 (x := 71) (v := nI (s1 + 1)) hC hW (by omega) kd_71 gw_495 dX6_layWay_306 (fun H locs hW => ?_)
                            refine lv_aload_n hx hb dX6_layWay_309 rfl (lv_at hl 4 rfl) ?_
                            refine lv_dup hx hb dX6_layWay_310 rfl ?_
                            refine g_6_13 (x := 71) hC hW (by omega) kd_71 gw_496 dX6_layWay_311 ?_
                            refine lv_iload hx hb dX6_layWay_314 (lv_at hl 3 rfl) ?_
                            refine q_i2l hx hb dX6_layWay_316 (by first | omega | exact Nat.lt_of_le_of_lt (hw3 _) (by decide)) ?_
                            refine lv_lmul hx hb dX6_layWay_317 ?_
                            refine p_6_13 (x := 71) (v := (L1 71 13) * (lN (mv w K ro 6 t1 d))) hC hW (by omega) kd_71 gw_496 dX6_layWay_318 (fun H locs hW => ?_)
                            refine lv_iload hx hb dX6_layWay_321 (lv_at hl 11 rfl) ?_
                            refine lv_iload hx hb dX6_layWay_323 (lv_at hl 8 rfl) ?_
                            refine q_kI0 (q_rS (As := [.int (nI (t1)), .int (nI (d))]) (rest := []) hC hW mw_X6_toldThen gw_598 (k_toldThen l G n ad H.size (up2 (up2 I1 81 s1 (nI t1)) 71 12 (nI (s1 + 1))) (up2 L1 71 13 ((L1 71 13) * (lN (mv w K ro 6 t1 d)))) R _ _ (by omega) (by omega)) ⟨rfl, rfl⟩ ⟨Nat.le_of_ble_eq_true rfl, Nat.le_of_ble_eq_true rfl⟩ ⟨(Nat.le_of_ble_eq_true rfl), (Nat.le_of_ble_eq_true rfl)⟩ hl.1 rfl rfl (Nat.le_of_ble_eq_true rfl) dX6_layWay_325) hW (fun r_325 H locs hp hW => ?_)
                            subst hp
                            refine lv_istore (lv' := [(4, .int (nI (nx t1 d))), (9, .int (nI 1)), (13, .int (nI (rtN w ro K d 6 t1))), (12, .int (nI ((7 * t1) + (nx t1 d)))), (11, .int (nI (mv w K ro 6 t1 d))), (0, .ref (ad 71)), (1, .int (-6)), (2, .int (x3)), (3, .int (nI (a1 + fC w ro K d 6 t1))), (5, .int (-6)), (7, .long (lN (fM w ro K d 6 6))), (10, .int (nI (t1)))]) hx hb dX6_layWay_328 hl (by decide) rfl (fun ls hl => ?_)
                            refine lv_iload hx hb dX6_layWay_330 (lv_at hl 11 rfl) ?_
                            refine lv_istore (lv' := [(5, .int (nI (t1))), (4, .int (nI (nx t1 d))), (9, .int (nI 1)), (13, .int (nI (rtN w ro K d 6 t1))), (12, .int (nI ((7 * t1) + (nx t1 d)))), (11, .int (nI (mv w K ro 6 t1 d))), (0, .ref (ad 71)), (1, .int (-6)), (2, .int (x3)), (3, .int (nI (a1 + fC w ro K d 6 t1))), (7, .long (lN (fM w ro K d 6 6))), (10, .int (nI (t1)))]) hx hb dX6_layWay_332 hl (by decide) rfl (fun ls hl => ?_)
                            refine lv_goto (tgt := 347) hx hb dX6_layWay_334 (by decide) ?_
                            refine q_iinc (z2 := t1 + 1) (lv' := [(10, .int (nI (t1 + 1))), (5, .int (nI (t1))), (4, .int (nI (nx t1 d))), (9, .int (nI 1)), (13, .int (nI (rtN w ro K d 6 t1))), (12, .int (nI ((7 * t1) + (nx t1 d)))), (11, .int (nI (mv w K ro 6 t1 d))), (0, .ref (ad 71)), (1, .int (-6)), (2, .int (x3)), (3, .int (nI (a1 + fC w ro K d 6 t1))), (7, .long (lN (fM w ro K d 6 6)))]) hx hb dX6_layWay_347 hl (k := 11) rfl (inc_up _ 1 (by decide)) (by decide) rfl (fun ls hl => ?_)
                            refine lv_goto (tgt := 153) hx hb dX6_layWay_350 (by decide) ?_
                            refine lv_iload hx hb dX6_layWay_153 (lv_at hl 0 rfl) ?_
                            refine q_bp 6 hx hb dX6_layWay_155 (by decide) ?_
                            refine q_cge (tgt := 353) hx hb dX6_layWay_157 (by decide) (by first | omega | exact Nat.lt_of_le_of_lt (hw3 _) (by decide)) (by first | omega | exact Nat.lt_of_le_of_lt (hw3 _) (by decide)) (fun c_157 => ?_) (fun c_157 => ?_)
                            ·
                              refine lv_iload hx hb dX6_layWay_353 (lv_at hl 1 rfl) ?_
                              refine q_ic 4 hx hb dX6_layWay_355 (by decide) ?_
                              refine q_cge (tgt := 375) hx hb dX6_layWay_356 (by decide) (by first | omega | exact Nat.lt_of_le_of_lt (hw3 _) (by decide)) (by first | omega | exact Nat.lt_of_le_of_lt (hw3 _) (by decide)) (fun c_356 => ?_) (fun c_356 => ?_)
                              ·
                                refine q_ic 0 hx hb dX6_layWay_375 (by decide) ?_
                                refine lv_istore (lv' := [(6, .int (nI 0)), (10, .int (nI (t1 + 1))), (5, .int (nI (t1))), (4, .int (nI (nx t1 d))), (9, .int (nI 1)), (13, .int (nI (rtN w ro K d 6 t1))), (12, .int (nI ((7 * t1) + (nx t1 d)))), (11, .int (nI (mv w K ro 6 t1 d))), (0, .ref (ad 71)), (1, .int (-6)), (2, .int (x3)), (3, .int (nI (a1 + fC w ro K d 6 t1))), (7, .long (lN (fM w ro K d 6 6)))]) hx hb dX6_layWay_376 hl (by decide) rfl (fun ls hl => ?_)
                                have hnj := NJ_s hw hNJ hdK (show t1 < 6 by omega) hp1
                                have hbs := byM_s (w := w) (r := ro) hs18 hdK (show t1 < 6 by omega) hno hok
                                have hfj := FJ_s (hbs ▸ hF) hs18
                                have hq3 : a1 + fC w ro K d 6 t1 + rkN w ro K (nx t1 d) t1 (byM w ro K (19 - (s1 + 1)) (nx t1 d) t1) = rkN w ro K 0 6 (wayM w ro K) ∧ 0 < Cx' w K ro (K - nx t1 d) t1 := ⟨by rw [← hGI.1, hbs, Nat.add_assoc]; rfl, by have h8 := (okM_iff.mp hok).1; rw [rt_p hp1] at h8; exact h8⟩
                                have hen : bI (nx t1 d = K) = nI 0 := bI_f (by unfold nx; rw [if_neg (by omega)]; omega)
                                have hl : lv_has ls 14 [(6, .int (bI (nx t1 d = K))), (10, .int (nI (t1 + 1))), (5, .int (nI (t1))), (4, .int (nI (nx t1 d))), (9, .int (nI 1)), (13, .int (nI (rtN w ro K d 6 t1))), (12, .int (nI ((7 * t1) + (nx t1 d)))), (11, .int (nI (mv w K ro 6 t1 d))), (0, .ref (ad 71)), (1, .int (-6)), (2, .int (x3)), (3, .int (nI (a1 + fC w ro K d 6 t1))), (7, .long (lN (fM w ro K d 6 6)))] := by rw [hen]; exact hl
                                have hl : lv_has ls 14 [(6, .int (bI (nx t1 d = K))), (10, .int (nI (t1 + 1))), (5, .int (fr6 t1)), (4, .int (nI (nx t1 d))), (9, .int (nI 1)), (13, .int (nI (rtN w ro K d 6 t1))), (12, .int (nI ((7 * t1) + (nx t1 d)))), (11, .int (nI (mv w K ro 6 t1 d))), (0, .ref (ad 71)), (1, .int (-6)), (2, .int (x3)), (3, .int (nI (a1 + fC w ro K d 6 t1))), (7, .long (lN (fM w ro K d 6 6)))] := by rw [show fr6 t1 = nI t1 from if_neg (by omega)]; exact hl
                                refine lv_goto (tgt := 38) hx hb dX6_layWay_378 (by decide) ?_
                                exact ih_38 (s1 + 1) (nx t1 d) t1 x3 (a1 + fC w ro K d 6 t1) (up2 (up2 I1 81 s1 (nI t1)) 71 12 (nI (s1 + 1))) (up2 L1 71 13 ((L1 71 13) * (lN (mv w K ro 6 t1 d)))) (by omega) hfj hnj hq3 _ _ hW _ (lv_sub hl [8, 9, 10, 11, 3, 2, 0] rfl)
                              ·
                                refine lv_iload hx hb dX6_layWay_359 (lv_at hl 2 rfl) ?_
                                refine lv_aload_n hx hb dX6_layWay_361 rfl (lv_at hl 7 rfl) ?_
                                refine g_6_0 (x := 71) (y := 72) hC hW (by omega) kd_71 gw_483 (hlk 71 0 72 (by omega) rfl) dX6_layWay_362 ?_
                                refine q_bp 58 hx hb dX6_layWay_365 (by decide) ?_
                                refine q_iald (x := 72) (i := 58) hC hW (by omega) kd_72 (by omega) dX6_layWay_367 ?_
                                refine q_top (v2 := .int (nI (K))) (congrArg _ (by rw [up2_ne (by decide), up2_ne (by decide)]; exact hN1.2.1)) ?_
                                refine q_cne (tgt := 375) hx hb dX6_layWay_368 (by decide) (by first | omega | exact Nat.lt_of_le_of_lt (hw3 _) (by decide)) (by first | omega | exact Nat.lt_of_le_of_lt (hw3 _) (by decide)) (fun c_368 => ?_) (fun c_368 => ?_)
                                ·
                                  refine q_ic 0 hx hb dX6_layWay_375 (by decide) ?_
                                  refine lv_istore (lv' := [(6, .int (nI 0)), (10, .int (nI (t1 + 1))), (5, .int (nI (t1))), (4, .int (nI (nx t1 d))), (9, .int (nI 1)), (13, .int (nI (rtN w ro K d 6 t1))), (12, .int (nI ((7 * t1) + (nx t1 d)))), (11, .int (nI (mv w K ro 6 t1 d))), (0, .ref (ad 71)), (1, .int (-6)), (2, .int (x3)), (3, .int (nI (a1 + fC w ro K d 6 t1))), (7, .long (lN (fM w ro K d 6 6)))]) hx hb dX6_layWay_376 hl (by decide) rfl (fun ls hl => ?_)
                                  have hnj := NJ_s hw hNJ hdK (show t1 < 6 by omega) hp1
                                  have hbs := byM_s (w := w) (r := ro) hs18 hdK (show t1 < 6 by omega) hno hok
                                  have hfj := FJ_s (hbs ▸ hF) hs18
                                  have hq3 : a1 + fC w ro K d 6 t1 + rkN w ro K (nx t1 d) t1 (byM w ro K (19 - (s1 + 1)) (nx t1 d) t1) = rkN w ro K 0 6 (wayM w ro K) ∧ 0 < Cx' w K ro (K - nx t1 d) t1 := ⟨by rw [← hGI.1, hbs, Nat.add_assoc]; rfl, by have h8 := (okM_iff.mp hok).1; rw [rt_p hp1] at h8; exact h8⟩
                                  have hen : bI (nx t1 d = K) = nI 0 := bI_f (by omega)
                                  have hl : lv_has ls 14 [(6, .int (bI (nx t1 d = K))), (10, .int (nI (t1 + 1))), (5, .int (nI (t1))), (4, .int (nI (nx t1 d))), (9, .int (nI 1)), (13, .int (nI (rtN w ro K d 6 t1))), (12, .int (nI ((7 * t1) + (nx t1 d)))), (11, .int (nI (mv w K ro 6 t1 d))), (0, .ref (ad 71)), (1, .int (-6)), (2, .int (x3)), (3, .int (nI (a1 + fC w ro K d 6 t1))), (7, .long (lN (fM w ro K d 6 6)))] := by rw [hen]; exact hl
                                  have hl : lv_has ls 14 [(6, .int (bI (nx t1 d = K))), (10, .int (nI (t1 + 1))), (5, .int (fr6 t1)), (4, .int (nI (nx t1 d))), (9, .int (nI 1)), (13, .int (nI (rtN w ro K d 6 t1))), (12, .int (nI ((7 * t1) + (nx t1 d)))), (11, .int (nI (mv w K ro 6 t1 d))), (0, .ref (ad 71)), (1, .int (-6)), (2, .int (x3)), (3, .int (nI (a1 + fC w ro K d 6 t1))), (7, .long (lN (fM w ro K d 6 6)))] := by rw [show fr6 t1 = nI t1 from if_neg (by omega)]; exact hl
                                  refine lv_goto (tgt := 38) hx hb dX6_layWay_378 (by decide) ?_
                                  exact ih_38 (s1 + 1) (nx t1 d) t1 x3 (a1 + fC w ro K d 6 t1) (up2 (up2 I1 81 s1 (nI t1)) 71 12 (nI (s1 + 1))) (up2 L1 71 13 ((L1 71 13) * (lN (mv w K ro 6 t1 d)))) (by omega) hfj hnj hq3 _ _ hW _ (lv_sub hl [8, 9, 10, 11, 3, 2, 0] rfl)
                                ·
                                  refine q_ic 1 hx hb dX6_layWay_371 (by decide) ?_
                                  refine lv_goto (tgt := 376) hx hb dX6_layWay_372 (by decide) ?_
                                  refine lv_istore (lv' := [(6, .int (nI 1)), (10, .int (nI (t1 + 1))), (5, .int (nI (t1))), (4, .int (nI (nx t1 d))), (9, .int (nI 1)), (13, .int (nI (rtN w ro K d 6 t1))), (12, .int (nI ((7 * t1) + (nx t1 d)))), (11, .int (nI (mv w K ro 6 t1 d))), (0, .ref (ad 71)), (1, .int (-6)), (2, .int (x3)), (3, .int (nI (a1 + fC w ro K d 6 t1))), (7, .long (lN (fM w ro K d 6 6)))]) hx hb dX6_layWay_376 hl (by decide) rfl (fun ls hl => ?_)
                                  have hnj := NJ_s hw hNJ hdK (show t1 < 6 by omega) hp1
                                  have hbs := byM_s (w := w) (r := ro) hs18 hdK (show t1 < 6 by omega) hno hok
                                  have hfj := FJ_s (hbs ▸ hF) hs18
                                  have hq3 : a1 + fC w ro K d 6 t1 + rkN w ro K (nx t1 d) t1 (byM w ro K (19 - (s1 + 1)) (nx t1 d) t1) = rkN w ro K 0 6 (wayM w ro K) ∧ 0 < Cx' w K ro (K - nx t1 d) t1 := ⟨by rw [← hGI.1, hbs, Nat.add_assoc]; rfl, by have h8 := (okM_iff.mp hok).1; rw [rt_p hp1] at h8; exact h8⟩
                                  have hen : bI (nx t1 d = K) = nI 1 := bI_t (by omega)
                                  have hl : lv_has ls 14 [(6, .int (bI (nx t1 d = K))), (10, .int (nI (t1 + 1))), (5, .int (nI (t1))), (4, .int (nI (nx t1 d))), (9, .int (nI 1)), (13, .int (nI (rtN w ro K d 6 t1))), (12, .int (nI ((7 * t1) + (nx t1 d)))), (11, .int (nI (mv w K ro 6 t1 d))), (0, .ref (ad 71)), (1, .int (-6)), (2, .int (x3)), (3, .int (nI (a1 + fC w ro K d 6 t1))), (7, .long (lN (fM w ro K d 6 6)))] := by rw [hen]; exact hl
                                  have hl : lv_has ls 14 [(6, .int (bI (nx t1 d = K))), (10, .int (nI (t1 + 1))), (5, .int (fr6 t1)), (4, .int (nI (nx t1 d))), (9, .int (nI 1)), (13, .int (nI (rtN w ro K d 6 t1))), (12, .int (nI ((7 * t1) + (nx t1 d)))), (11, .int (nI (mv w K ro 6 t1 d))), (0, .ref (ad 71)), (1, .int (-6)), (2, .int (x3)), (3, .int (nI (a1 + fC w ro K d 6 t1))), (7, .long (lN (fM w ro K d 6 6)))] := by rw [show fr6 t1 = nI t1 from if_neg (by omega)]; exact hl
                                  refine lv_goto (tgt := 38) hx hb dX6_layWay_378 (by decide) ?_
                                  exact ih_38 (s1 + 1) (nx t1 d) t1 x3 (a1 + fC w ro K d 6 t1) (up2 (up2 I1 81 s1 (nI t1)) 71 12 (nI (s1 + 1))) (up2 L1 71 13 ((L1 71 13) * (lN (mv w K ro 6 t1 d)))) (by omega) hfj hnj hq3 _ _ hW _ (lv_sub hl [8, 9, 10, 11, 3, 2, 0] rfl)
                            ·
                              refine lv_iload hx hb dX6_layWay_160 (lv_at hl 3 rfl) ?_
                              refine q_ine (tgt := 353) hx hb dX6_layWay_162 (by decide) (by first | omega | exact Nat.lt_of_le_of_lt (hw3 _) (by decide)) (fun c_162 => ?_) (fun c_162 => absurd c_162 (by decide))
                              refine lv_iload hx hb dX6_layWay_353 (lv_at hl 1 rfl) ?_
                              refine q_ic 4 hx hb dX6_layWay_355 (by decide) ?_
                              refine q_cge (tgt := 375) hx hb dX6_layWay_356 (by decide) (by first | omega | exact Nat.lt_of_le_of_lt (hw3 _) (by decide)) (by first | omega | exact Nat.lt_of_le_of_lt (hw3 _) (by decide)) (fun c_356 => ?_) (fun c_356 => ?_)
                              ·
                                refine q_ic 0 hx hb dX6_layWay_375 (by decide) ?_
                                refine lv_istore (lv' := [(6, .int (nI 0)), (10, .int (nI (t1 + 1))), (5, .int (nI (t1))), (4, .int (nI (nx t1 d))), (9, .int (nI 1)), (13, .int (nI (rtN w ro K d 6 t1))), (12, .int (nI ((7 * t1) + (nx t1 d)))), (11, .int (nI (mv w K ro 6 t1 d))), (0, .ref (ad 71)), (1, .int (-6)), (2, .int (x3)), (3, .int (nI (a1 + fC w ro K d 6 t1))), (7, .long (lN (fM w ro K d 6 6)))]) hx hb dX6_layWay_376 hl (by decide) rfl (fun ls hl => ?_)
                                have hnj := NJ_s hw hNJ hdK (show t1 < 6 by omega) hp1
                                have hbs := byM_s (w := w) (r := ro) hs18 hdK (show t1 < 6 by omega) hno hok
                                have hfj := FJ_s (hbs ▸ hF) hs18
                                have hq3 : a1 + fC w ro K d 6 t1 + rkN w ro K (nx t1 d) t1 (byM w ro K (19 - (s1 + 1)) (nx t1 d) t1) = rkN w ro K 0 6 (wayM w ro K) ∧ 0 < Cx' w K ro (K - nx t1 d) t1 := ⟨by rw [← hGI.1, hbs, Nat.add_assoc]; rfl, by have h8 := (okM_iff.mp hok).1; rw [rt_p hp1] at h8; exact h8⟩
                                have hen : bI (nx t1 d = K) = nI 0 := bI_f (by unfold nx; rw [if_neg (by omega)]; omega)
                                have hl : lv_has ls 14 [(6, .int (bI (nx t1 d = K))), (10, .int (nI (t1 + 1))), (5, .int (nI (t1))), (4, .int (nI (nx t1 d))), (9, .int (nI 1)), (13, .int (nI (rtN w ro K d 6 t1))), (12, .int (nI ((7 * t1) + (nx t1 d)))), (11, .int (nI (mv w K ro 6 t1 d))), (0, .ref (ad 71)), (1, .int (-6)), (2, .int (x3)), (3, .int (nI (a1 + fC w ro K d 6 t1))), (7, .long (lN (fM w ro K d 6 6)))] := by rw [hen]; exact hl
                                have hl : lv_has ls 14 [(6, .int (bI (nx t1 d = K))), (10, .int (nI (t1 + 1))), (5, .int (fr6 t1)), (4, .int (nI (nx t1 d))), (9, .int (nI 1)), (13, .int (nI (rtN w ro K d 6 t1))), (12, .int (nI ((7 * t1) + (nx t1 d)))), (11, .int (nI (mv w K ro 6 t1 d))), (0, .ref (ad 71)), (1, .int (-6)), (2, .int (x3)), (3, .int (nI (a1 + fC w ro K d 6 t1))), (7, .long (lN (fM w ro K d 6 6)))] := by rw [show fr6 t1 = nI t1 from if_neg (by omega)]; exact hl
                                refine lv_goto (tgt := 38) hx hb dX6_layWay_378 (by decide) ?_
                                exact ih_38 (s1 + 1) (nx t1 d) t1 x3 (a1 + fC w ro K d 6 t1) (up2 (up2 I1 81 s1 (nI t1)) 71 12 (nI (s1 + 1))) (up2 L1 71 13 ((L1 71 13) * (lN (mv w K ro 6 t1 d)))) (by omega) hfj hnj hq3 _ _ hW _ (lv_sub hl [8, 9, 10, 11, 3, 2, 0] rfl)
                              ·
                                refine lv_iload hx hb dX6_layWay_359 (lv_at hl 2 rfl) ?_
                                refine lv_aload_n hx hb dX6_layWay_361 rfl (lv_at hl 7 rfl) ?_
                                refine g_6_0 (x := 71) (y := 72) hC hW (by omega) kd_71 gw_483 (hlk 71 0 72 (by omega) rfl) dX6_layWay_362 ?_
                                refine q_bp 58 hx hb dX6_layWay_365 (by decide) ?_
                                refine q_iald (x := 72) (i := 58) hC hW (by omega) kd_72 (by omega) dX6_layWay_367 ?_
                                refine q_top (v2 := .int (nI (K))) (congrArg _ (by rw [up2_ne (by decide), up2_ne (by decide)]; exact hN1.2.1)) ?_
                                refine q_cne (tgt := 375) hx hb dX6_layWay_368 (by decide) (by first | omega | exact Nat.lt_of_le_of_lt (hw3 _) (by decide)) (by first | omega | exact Nat.lt_of_le_of_lt (hw3 _) (by decide)) (fun c_368 => ?_) (fun c_368 => ?_)
                                ·
                                  refine q_ic 0 hx hb dX6_layWay_375 (by decide) ?_
                                  refine lv_istore (lv' := [(6, .int (nI 0)), (10, .int (nI (t1 + 1))), (5, .int (nI (t1))), (4, .int (nI (nx t1 d))), (9, .int (nI 1)), (13, .int (nI (rtN w ro K d 6 t1))), (12, .int (nI ((7 * t1) + (nx t1 d)))), (11, .int (nI (mv w K ro 6 t1 d))), (0, .ref (ad 71)), (1, .int (-6)), (2, .int (x3)), (3, .int (nI (a1 + fC w ro K d 6 t1))), (7, .long (lN (fM w ro K d 6 6)))]) hx hb dX6_layWay_376 hl (by decide) rfl (fun ls hl => ?_)
                                  have hnj := NJ_s hw hNJ hdK (show t1 < 6 by omega) hp1
                                  have hbs := byM_s (w := w) (r := ro) hs18 hdK (show t1 < 6 by omega) hno hok
                                  have hfj := FJ_s (hbs ▸ hF) hs18
                                  have hq3 : a1 + fC w ro K d 6 t1 + rkN w ro K (nx t1 d) t1 (byM w ro K (19 - (s1 + 1)) (nx t1 d) t1) = rkN w ro K 0 6 (wayM w ro K) ∧ 0 < Cx' w K ro (K - nx t1 d) t1 := ⟨by rw [← hGI.1, hbs, Nat.add_assoc]; rfl, by have h8 := (okM_iff.mp hok).1; rw [rt_p hp1] at h8; exact h8⟩
                                  have hen : bI (nx t1 d = K) = nI 0 := bI_f (by omega)
                                  have hl : lv_has ls 14 [(6, .int (bI (nx t1 d = K))), (10, .int (nI (t1 + 1))), (5, .int (nI (t1))), (4, .int (nI (nx t1 d))), (9, .int (nI 1)), (13, .int (nI (rtN w ro K d 6 t1))), (12, .int (nI ((7 * t1) + (nx t1 d)))), (11, .int (nI (mv w K ro 6 t1 d))), (0, .ref (ad 71)), (1, .int (-6)), (2, .int (x3)), (3, .int (nI (a1 + fC w ro K d 6 t1))), (7, .long (lN (fM w ro K d 6 6)))] := by rw [hen]; exact hl
                                  have hl : lv_has ls 14 [(6, .int (bI (nx t1 d = K))), (10, .int (nI (t1 + 1))), (5, .int (fr6 t1)), (4, .int (nI (nx t1 d))), (9, .int (nI 1)), (13, .int (nI (rtN w ro K d 6 t1))), (12, .int (nI ((7 * t1) + (nx t1 d)))), (11, .int (nI (mv w K ro 6 t1 d))), (0, .ref (ad 71)), (1, .int (-6)), (2, .int (x3)), (3, .int (nI (a1 + fC w ro K d 6 t1))), (7, .long (lN (fM w ro K d 6 6)))] := by rw [show fr6 t1 = nI t1 from if_neg (by omega)]; exact hl
                                  refine lv_goto (tgt := 38) hx hb dX6_layWay_378 (by decide) ?_
                                  exact ih_38 (s1 + 1) (nx t1 d) t1 x3 (a1 + fC w ro K d 6 t1) (up2 (up2 I1 81 s1 (nI t1)) 71 12 (nI (s1 + 1))) (up2 L1 71 13 ((L1 71 13) * (lN (mv w K ro 6 t1 d)))) (by omega) hfj hnj hq3 _ _ hW _ (lv_sub hl [8, 9, 10, 11, 3, 2, 0] rfl)
                                ·
                                  refine q_ic 1 hx hb dX6_layWay_371 (by decide) ?_
                                  refine lv_goto (tgt := 376) hx hb dX6_layWay_372 (by decide) ?_
                                  refine lv_istore (lv' := [(6, .int (nI 1)), (10, .int (nI (t1 + 1))), (5, .int (nI (t1))), (4, .int (nI (nx t1 d))), (9, .int (nI 1)), (13, .int (nI (rtN w ro K d 6 t1))), (12, .int (nI ((7 * t1) + (nx t1 d)))), (11, .int (nI (mv w K ro 6 t1 d))), (0, .ref (ad 71)), (1, .int (-6)), (2, .int (x3)), (3, .int (nI (a1 + fC w ro K d 6 t1))), (7, .long (lN (fM w ro K d 6 6)))]) hx hb dX6_layWay_376 hl (by decide) rfl (fun ls hl => ?_)
                                  have hnj := NJ_s hw hNJ hdK (show t1 < 6 by omega) hp1
                                  have hbs := byM_s (w := w) (r := ro) hs18 hdK (show t1 < 6 by omega) hno hok
                                  have hfj := FJ_s (hbs ▸ hF) hs18
                                  have hq3 : a1 + fC w ro K d 6 t1 + rkN w ro K (nx t1 d) t1 (byM w ro K (19 - (s1 + 1)) (nx t1 d) t1) = rkN w ro K 0 6 (wayM w ro K) ∧ 0 < Cx' w K ro (K - nx t1 d) t1 := ⟨by rw [← hGI.1, hbs, Nat.add_assoc]; rfl, by have h8 := (okM_iff.mp hok).1; rw [rt_p hp1] at h8; exact h8⟩
                                  have hen : bI (nx t1 d = K) = nI 1 := bI_t (by omega)
                                  have hl : lv_has ls 14 [(6, .int (bI (nx t1 d = K))), (10, .int (nI (t1 + 1))), (5, .int (nI (t1))), (4, .int (nI (nx t1 d))), (9, .int (nI 1)), (13, .int (nI (rtN w ro K d 6 t1))), (12, .int (nI ((7 * t1) + (nx t1 d)))), (11, .int (nI (mv w K ro 6 t1 d))), (0, .ref (ad 71)), (1, .int (-6)), (2, .int (x3)), (3, .int (nI (a1 + fC w ro K d 6 t1))), (7, .long (lN (fM w ro K d 6 6)))] := by rw [hen]; exact hl
                                  have hl : lv_has ls 14 [(6, .int (bI (nx t1 d = K))), (10, .int (nI (t1 + 1))), (5, .int (fr6 t1)), (4, .int (nI (nx t1 d))), (9, .int (nI 1)), (13, .int (nI (rtN w ro K d 6 t1))), (12, .int (nI ((7 * t1) + (nx t1 d)))), (11, .int (nI (mv w K ro 6 t1 d))), (0, .ref (ad 71)), (1, .int (-6)), (2, .int (x3)), (3, .int (nI (a1 + fC w ro K d 6 t1))), (7, .long (lN (fM w ro K d 6 6)))] := by rw [show fr6 t1 = nI t1 from if_neg (by omega)]; exact hl
                                  refine lv_goto (tgt := 38) hx hb dX6_layWay_378 (by decide) ?_
                                  exact ih_38 (s1 + 1) (nx t1 d) t1 x3 (a1 + fC w ro K d 6 t1) (up2 (up2 I1 81 s1 (nI t1)) 71 12 (nI (s1 + 1))) (up2 L1 71 13 ((L1 71 13) * (lN (mv w K ro 6 t1 d)))) (by omega) hfj hnj hq3 _ _ hW _ (lv_sub hl [8, 9, 10, 11, 3, 2, 0] rfl)
                  exact lp_153 (6 + 1) 0 x2 (by omega) (by omega) (fun i hi => absurd hi (by omega)) _ _ hW _ (lv_sub hl [2, 3, 4, 5, 6, 7, 8, 1, 0] rfl)
                ·
                  refine lv_aload_n hx hb dX6_layWay_56 rfl (lv_at hl 0 rfl) ?_
                  refine lv_iload hx hb dX6_layWay_57 (lv_at hl 5 rfl) ?_
                  refine lv_if_ge (tgt := 72) hx hb dX6_layWay_59 (by decide) (fun c_59 => absurd c_59 (by decide)) (fun c_59 => ?_)
                  refine lv_aload_n hx hb dX6_layWay_62 rfl (lv_at hl 0 rfl) ?_
                  refine g_6_0 (x := 71) (y := 72) hC hW (by omega) kd_71 gw_483 (hlk 71 0 72 (by omega) rfl) dX6_layWay_63 ?_
                  refine lv_iload hx hb dX6_layWay_66 (lv_at hl 7 rfl) ?_
                  refine q_iald (x := 72) (i := t1) hC hW (by omega) kd_72 (by omega) dX6_layWay_68 ?_
                  refine q_top (v2 := .int (nI (w (6 * 6 + t1)))) (congrArg _ ((hN1.1 _ (by omega)).trans (congrArg nI (rwt_b w (by omega))))) ?_
                  refine lv_goto (tgt := 80) hx hb dX6_layWay_69 (by decide) ?_
                  refine lv_iload hx hb dX6_layWay_80 (lv_at hl 7 rfl) ?_
                  refine lv_iload hx hb dX6_layWay_82 (lv_at hl 4 rfl) ?_
                  refine q_kI0 (q_rV (As := [.int (nI (w (6 * 6 + t1))), .int (nI (t1)), .int (nI (d))]) (rest := []) (x := 71) hC hW mw_X6_going gw_590 (k_going l G n ad H.size I1 L1 R _ _ _ (hw3 _) (by omega) (by omega) w K ro hn hlk hN1) (by omega) (ct_o6 kd_71) rfl ⟨rfl, rfl⟩ ⟨Nat.le_of_ble_eq_true rfl, Nat.le_of_ble_eq_true rfl⟩ ⟨(Nat.le_of_ble_eq_true rfl), (Nat.le_of_ble_eq_true rfl)⟩ hl.1 rfl rfl (Nat.le_of_ble_eq_true rfl) dX6_layWay_84) hW (fun r_84 H locs hp hW => ?_)
                  subst hp
                  refine q_top (v2 := .int (nI (mv w K ro 6 t1 d))) rfl ?_
                  have hm9 := mv_le hw K ro 6 t1 d
                  refine q_i2l hx hb dX6_layWay_87 (by first | omega | exact Nat.lt_of_le_of_lt (hw3 _) (by decide)) ?_
                  refine lv_lstore (lv' := [(10, .long (lN (mv w K ro 6 t1 d))), (0, .ref (ad 71)), (1, .int (-6)), (2, .int (x2)), (3, .int (nI (a1))), (4, .int (nI (d))), (5, .int (-6)), (7, .long (lN (fM w ro K d 6 t1))), (9, .int (nI (t1)))]) hx hb dX6_layWay_88 hl (by decide) rfl (fun ls hl => ?_)
                  refine lv_lload hx hb dX6_layWay_90 (lv_at hl 0 rfl) ?_
                  refine q_lc 0 hx hb dX6_layWay_92 (by decide) ?_
                  refine q_lcmp hx hb dX6_layWay_93 ?_
                  refine q_lle (tgt := 121) hx hb dX6_layWay_94 (by decide) (by first | decide | omega | assumption) (by first | decide | omega | assumption) (fun c_94 => ?_) (fun c_94 => ?_)
                  ·
                    have hz1 : mv w K ro 6 t1 d = 0 := by omega
                    refine q_lc 0 hx hb dX6_layWay_121 (by decide) ?_
                    refine lv_lstore (lv' := [(12, .long (lN 0)), (10, .long (lN (mv w K ro 6 t1 d))), (0, .ref (ad 71)), (1, .int (-6)), (2, .int (x2)), (3, .int (nI (a1))), (4, .int (nI (d))), (5, .int (-6)), (7, .long (lN (fM w ro K d 6 t1))), (9, .int (nI (t1)))]) hx hb dX6_layWay_122 hl (by decide) rfl (fun ls hl => ?_)
                    refine lv_lload hx hb dX6_layWay_124 (lv_at hl 0 rfl) ?_
                    refine lv_lload hx hb dX6_layWay_126 (lv_at hl 8 rfl) ?_
                    refine q_lcmp hx hb dX6_layWay_128 ?_
                    refine q_lle (tgt := 137) hx hb dX6_layWay_129 (by decide) (by decide) (Nat.lt_of_le_of_lt (fM_b hw (r := ro) K d 6 t1 hk6) (by decide)) (fun c_129 => ?_) (fun c_129 => ?_)
                    ·
                      refine lv_lload hx hb dX6_layWay_137 (lv_at hl 8 rfl) ?_
                      refine q_top (v2 := .long (lN (fM w ro K d 6 (t1 + 1)))) (congrArg (fun z => Value.long (lN z)) (show fM w ro K d 6 t1 = fM w ro K d 6 (t1 + 1) from by have h9 := fM_n (w := w) (r := ro) (K := K) (d := d) (f := 6) (i := t1) hz1; omega)) ?_
                      refine lv_lstore (lv' := [(7, .long (lN (fM w ro K d 6 (t1 + 1)))), (12, .long (lN 0)), (10, .long (lN (mv w K ro 6 t1 d))), (0, .ref (ad 71)), (1, .int (-6)), (2, .int (x2)), (3, .int (nI (a1))), (4, .int (nI (d))), (5, .int (-6)), (9, .int (nI (t1)))]) hx hb dX6_layWay_139 hl (by decide) rfl (fun ls hl => ?_)
                      refine q_iinc (z2 := t1 + 1) (lv' := [(9, .int (nI (t1 + 1))), (7, .long (lN (fM w ro K d 6 (t1 + 1)))), (12, .long (lN 0)), (10, .long (lN (mv w K ro 6 t1 d))), (0, .ref (ad 71)), (1, .int (-6)), (2, .int (x2)), (3, .int (nI (a1))), (4, .int (nI (d))), (5, .int (-6))]) hx hb dX6_layWay_141 hl (k := 9) rfl (inc_up _ 1 (by decide)) (by decide) rfl (fun ls hl => ?_)
                      refine lv_goto (tgt := 49) hx hb dX6_layWay_144 (by decide) ?_
                      exact ih_49 (t1 + 1) (by omega) (by omega) _ _ hW _ (lv_sub hl [4, 5, 6, 7, 8, 9, 1, 0] rfl)
                    ·
                      refine lv_lload hx hb dX6_layWay_132 (lv_at hl 0 rfl) ?_
                      refine lv_goto (tgt := 139) hx hb dX6_layWay_134 (by decide) ?_
                      refine q_top (v2 := .long (lN (fM w ro K d 6 (t1 + 1)))) (congrArg (fun z => Value.long (lN z)) (show 0 = fM w ro K d 6 (t1 + 1) from by have h9 := fM_n (w := w) (r := ro) (K := K) (d := d) (f := 6) (i := t1) hz1; omega)) ?_
                      refine lv_lstore (lv' := [(7, .long (lN (fM w ro K d 6 (t1 + 1)))), (12, .long (lN 0)), (10, .long (lN (mv w K ro 6 t1 d))), (0, .ref (ad 71)), (1, .int (-6)), (2, .int (x2)), (3, .int (nI (a1))), (4, .int (nI (d))), (5, .int (-6)), (9, .int (nI (t1)))]) hx hb dX6_layWay_139 hl (by decide) rfl (fun ls hl => ?_)
                      refine q_iinc (z2 := t1 + 1) (lv' := [(9, .int (nI (t1 + 1))), (7, .long (lN (fM w ro K d 6 (t1 + 1)))), (12, .long (lN 0)), (10, .long (lN (mv w K ro 6 t1 d))), (0, .ref (ad 71)), (1, .int (-6)), (2, .int (x2)), (3, .int (nI (a1))), (4, .int (nI (d))), (5, .int (-6))]) hx hb dX6_layWay_141 hl (k := 9) rfl (inc_up _ 1 (by decide)) (by decide) rfl (fun ls hl => ?_)
                      refine lv_goto (tgt := 49) hx hb dX6_layWay_144 (by decide) ?_
                      exact ih_49 (t1 + 1) (by omega) (by omega) _ _ hW _ (lv_sub hl [4, 5, 6, 7, 8, 9, 1, 0] rfl)
                  ·
                    have hp1 : 0 < mv w K ro 6 t1 d := by omega
                    have hnx : nx t1 d ≤ K := nx_K2 hp1 (by omega)
                    have hmb := mM_lt hw (r := ro) K d 6 t1 hk6
                    refine lv_lload hx hb dX6_layWay_97 (lv_at hl 0 rfl) ?_
                    refine lv_aload_n hx hb dX6_layWay_99 rfl (lv_at hl 1 rfl) ?_
                    refine g_6_10 (x := 71) (y := 80) hC hW (by omega) kd_71 gw_493 (hlk 71 10 80 (by omega) rfl) dX6_layWay_100 ?_
                    refine q_bp 7 hx hb dX6_layWay_103 (by decide) ?_
                    refine lv_iload hx hb dX6_layWay_105 (lv_at hl 8 rfl) ?_
                    refine q_imul hx hb dX6_layWay_107 ?_
                    refine lv_iload hx hb dX6_layWay_108 (lv_at hl 8 rfl) ?_
                    refine lv_iload hx hb dX6_layWay_110 (lv_at hl 5 rfl) ?_
                    refine q_kI0 (q_rS (As := [.int (nI (t1)), .int (nI (d))]) (rest := [.int (nI (7 * t1)), .ref (ad 80), .long (lN (mv w K ro 6 t1 d))]) hC hW mw_X6_toldThen gw_598 (k_toldThen l G n ad H.size I1 L1 R _ _ (by omega) (by omega)) ⟨rfl, rfl⟩ ⟨Nat.le_of_ble_eq_true rfl, Nat.le_of_ble_eq_true rfl⟩ ⟨(Nat.le_of_ble_eq_true rfl), (Nat.le_of_ble_eq_true rfl)⟩ hl.1 rfl rfl (Nat.le_of_ble_eq_true rfl) dX6_layWay_112) hW (fun r_112 H locs hp hW => ?_)
                    subst hp
                    refine q_iadd hx hb dX6_layWay_115 ?_
                    refine q_lald (x := 80) (i := (7 * t1) + (nx t1 d)) hC hW (by omega) kd_80 (by omega) dX6_layWay_116 ?_
                    refine q_top (v2 := .long (lN (Mx' w K ro (K - (nx t1 d)) t1))) (congrArg _ (hB1 (nx t1 d) t1 (by omega) hnx (by omega)).2.1) ?_
                    refine q_lmul hx hb dX6_layWay_117 ?_
                    refine lv_goto (tgt := 122) hx hb dX6_layWay_118 (by decide) ?_
                    refine lv_lstore (lv' := [(12, .long (lN ((mv w K ro 6 t1 d) * (Mx' w K ro (K - (nx t1 d)) t1)))), (10, .long (lN (mv w K ro 6 t1 d))), (0, .ref (ad 71)), (1, .int (-6)), (2, .int (x2)), (3, .int (nI (a1))), (4, .int (nI (d))), (5, .int (-6)), (7, .long (lN (fM w ro K d 6 t1))), (9, .int (nI (t1)))]) hx hb dX6_layWay_122 hl (by decide) rfl (fun ls hl => ?_)
                    refine lv_lload hx hb dX6_layWay_124 (lv_at hl 0 rfl) ?_
                    refine lv_lload hx hb dX6_layWay_126 (lv_at hl 8 rfl) ?_
                    refine q_lcmp hx hb dX6_layWay_128 ?_
                    refine q_lle (tgt := 137) hx hb dX6_layWay_129 (by decide) hmb (Nat.lt_of_le_of_lt (fM_b hw (r := ro) K d 6 t1 hk6) (by decide)) (fun c_129 => ?_) (fun c_129 => ?_)
                    ·
                      refine lv_lload hx hb dX6_layWay_137 (lv_at hl 8 rfl) ?_
                      refine q_top (v2 := .long (lN (fM w ro K d 6 (t1 + 1)))) (congrArg (fun z => Value.long (lN z)) (show fM w ro K d 6 t1 = fM w ro K d 6 (t1 + 1) from by have h9 := fM_p (w := w) (r := ro) (K := K) (d := d) (f := 6) (i := t1) hp1; omega)) ?_
                      refine lv_lstore (lv' := [(7, .long (lN (fM w ro K d 6 (t1 + 1)))), (12, .long (lN ((mv w K ro 6 t1 d) * (Mx' w K ro (K - (nx t1 d)) t1)))), (10, .long (lN (mv w K ro 6 t1 d))), (0, .ref (ad 71)), (1, .int (-6)), (2, .int (x2)), (3, .int (nI (a1))), (4, .int (nI (d))), (5, .int (-6)), (9, .int (nI (t1)))]) hx hb dX6_layWay_139 hl (by decide) rfl (fun ls hl => ?_)
                      refine q_iinc (z2 := t1 + 1) (lv' := [(9, .int (nI (t1 + 1))), (7, .long (lN (fM w ro K d 6 (t1 + 1)))), (12, .long (lN ((mv w K ro 6 t1 d) * (Mx' w K ro (K - (nx t1 d)) t1)))), (10, .long (lN (mv w K ro 6 t1 d))), (0, .ref (ad 71)), (1, .int (-6)), (2, .int (x2)), (3, .int (nI (a1))), (4, .int (nI (d))), (5, .int (-6))]) hx hb dX6_layWay_141 hl (k := 9) rfl (inc_up _ 1 (by decide)) (by decide) rfl (fun ls hl => ?_)
                      refine lv_goto (tgt := 49) hx hb dX6_layWay_144 (by decide) ?_
                      exact ih_49 (t1 + 1) (by omega) (by omega) _ _ hW _ (lv_sub hl [4, 5, 6, 7, 8, 9, 1, 0] rfl)
                    ·
                      refine lv_lload hx hb dX6_layWay_132 (lv_at hl 0 rfl) ?_
                      refine lv_goto (tgt := 139) hx hb dX6_layWay_134 (by decide) ?_
                      refine q_top (v2 := .long (lN (fM w ro K d 6 (t1 + 1)))) (congrArg (fun z => Value.long (lN z)) (show (mv w K ro 6 t1 d) * (Mx' w K ro (K - (nx t1 d)) t1) = fM w ro K d 6 (t1 + 1) from by have h9 := fM_p (w := w) (r := ro) (K := K) (d := d) (f := 6) (i := t1) hp1; omega)) ?_
                      refine lv_lstore (lv' := [(7, .long (lN (fM w ro K d 6 (t1 + 1)))), (12, .long (lN ((mv w K ro 6 t1 d) * (Mx' w K ro (K - (nx t1 d)) t1)))), (10, .long (lN (mv w K ro 6 t1 d))), (0, .ref (ad 71)), (1, .int (-6)), (2, .int (x2)), (3, .int (nI (a1))), (4, .int (nI (d))), (5, .int (-6)), (9, .int (nI (t1)))]) hx hb dX6_layWay_139 hl (by decide) rfl (fun ls hl => ?_)
                      refine q_iinc (z2 := t1 + 1) (lv' := [(9, .int (nI (t1 + 1))), (7, .long (lN (fM w ro K d 6 (t1 + 1)))), (12, .long (lN ((mv w K ro 6 t1 d) * (Mx' w K ro (K - (nx t1 d)) t1)))), (10, .long (lN (mv w K ro 6 t1 d))), (0, .ref (ad 71)), (1, .int (-6)), (2, .int (x2)), (3, .int (nI (a1))), (4, .int (nI (d))), (5, .int (-6))]) hx hb dX6_layWay_141 hl (k := 9) rfl (inc_up _ 1 (by decide)) (by decide) rfl (fun ls hl => ?_)
                      refine lv_goto (tgt := 49) hx hb dX6_layWay_144 (by decide) ?_
                      exact ih_49 (t1 + 1) (by omega) (by omega) _ _ hW _ (lv_sub hl [4, 5, 6, 7, 8, 9, 1, 0] rfl)
            exact lp_49 (6 + 1) 0 (by omega) (by omega) _ _ hW _ (lv_sub hl [2, 3, 4, 5, 6, 7, 1, 0] rfl)
    exact lp_38 (18 + 1) 0 0 6 (-6) 0 (up2 I 71 12 (nI 0)) (up2 L 71 13 (lN 1)) (by omega) (FJ_0 (by rw [up2_at, if_pos ⟨rfl, rfl⟩]) (by rw [up2_at, if_pos ⟨rfl, rfl⟩]) (fun a h1 _ => up2_ne h1) (fun j hj => by rw [up2_at, if_neg (fun q9 => hj q9.2)]) (fun a ha => up2_ne ha)) (NJ_0 K) (⟨Nat.zero_add _, hC0⟩) _ _ hW _ (lv_sub hl [5, 6, 4, 3, 2, 1, 0] rfl)
  ·
    refine q_ic 1 hx hb dX6_layWay_31 (by decide) ?_
    refine lv_goto (tgt := 36) hx hb dX6_layWay_32 (by decide) ?_
    refine q_top (v2 := .int (bI (0 = K))) (congrArg Value.int (bI_t (p := 0 = K) (by omega)).symm) ?_
    refine lv_istore (lv' := [(6, .int (bI (0 = K))), (5, .int (fr6 6)), (4, .int (nI 0)), (3, .int (nI 0)), (2, .int (-6)), (0, .ref (ad 71)), (1, .int (-6))]) hx hb dX6_layWay_36 hl (by decide) rfl (fun ls hl => ?_)
    have lp_38 : ∀ (fu_38 : Nat) (s1 : Nat) (d : Nat) (f : Nat) (x2 : Int32) (a1 : Nat) (I1 : Ic) (L1 : Lc), 18 - s1 < fu_38 → (FJ w ro K (wayM w ro K) (byM w ro K (19 - s1) d f) I L s1 d f I1 L1) → (NJ K s1 d f) → (a1 + rkN w ro K d f (byM w ro K (19 - s1) d f) = rkN w ro K 0 6 (wayM w ro K) ∧ 0 < Cx' w K ro (K - d) f) → ∀ (H : Heap) (locs : List Loc), Wd G n ad I1 L1 R (qA n ad s.heap.size) s.heap H locs s → ∀ ls : Array Slot, lv_has ls 14 [(0, .ref (ad 71)), (1, .int (-6)), (2, .int (x2)), (3, .int (nI (a1))), (4, .int (nI (d))), (5, .int (fr6 f)), (6, .int (bI (d = K)))] → W p_ l e_ ({ frames := 2, cells := 0, slots := 0, locals := 72 } : Room) s m_ ([.ref (ad 71), .int (-6)] : List Value).toArray below meth c_ H locs 0 0 (MQ below (qI1 G (qA n ad s.heap.size) n ad R (fun z I1 L1 => z = nI (rkN w ro K 0 6 (wayM w ro K)) ∧ FoB (wayM w ro K) (prN w ro K 0 6 (wayM w ro K)) I1 L1 ∧ (∀ a, a ≠ 71 → a ≠ 81 → I1 a = I a) ∧ (∀ j, j ≠ 12 → I1 71 j = I 71 j) ∧ (∀ a, a ≠ 71 → L1 a = L a))) ([.ref (ad 71), .int (-6)] : List Value).toArray s 0 0 (qA n ad s.heap.size)) (F0 m_ 38 ls []) := by
      intro fu_38
      induction fu_38 with
      | zero =>
        intro s1 d f x2 a1 I1 L1 hm; exact absurd hm (Nat.not_lt_zero _)
      | succ fu_38 ih_38 =>
        intro s1 d f x2 a1 I1 L1 hm_38 hF hNJ hGI H locs hW ls hl
        have hN1 : NwI (I1 72) w K ro := by rw [hF.2.2.1 72 (by decide) (by decide)]; exact hN
        have hB1 : BhI w ro K I1 L1 0 := Bh_g hBh (hF.2.2.1 79 (by decide) (by decide)) (hF.2.2.2.2 78 (by decide)) (hF.2.2.2.2 80 (by decide))
        rcases Nat.lt_or_ge f 6 with hf6 | hf6
        ·
          rw [show fr6 f = nI f from if_neg (by omega)] at hl
          refine lv_iload hx hb dX6_layWay_38 (lv_at hl 6 rfl) ?_
          refine lv_if_ne (tgt := 381) hx hb dX6_layWay_40 (by decide) (fun c_40 => ?_) (fun c_40 => ?_)
          ·
            have hdK : d = K := bI_1 (p := d = K) c_40
            refine lv_iload_n hx hb dX6_layWay_381 rfl (lv_at hl 3 rfl) ?_
            exact q_iret1 hC hW hr hlk0 ⟨congrArg nI (by rw [← hGI.1, byM_e (show K ≤ d by omega)]; rfl), FJ_e hF (byM_e (by omega)) (by have h9 := hNJ.1; omega), hF.2.2.1, hF.2.2.2.1, hF.2.2.2.2⟩ dX6_layWay_382
          ·
            have hdn : ¬ d = K := bI_0 (p := d = K) c_40
            have hdK : d < K := by have h9 := hNJ.2.1; omega
            have hs18 : s1 < 18 := NJ_lt hNJ hk6 hdK
            have hMf : fM w ro K d f 6 = Mx' w K ro (K - d) f := (Mx_f hw K d f hdK).symm
            have hCf : Cx' w K ro (K - d) f = fC w ro K d f 6 := Cx_f hw K d f hdK
            have hCb := Cx_b hw (r := ro) K (K - d) f (by omega)
            refine q_lc 0 hx hb dX6_layWay_43 (by decide) ?_
            refine lv_lstore (lv' := [(7, .long (lN 0)), (0, .ref (ad 71)), (1, .int (-6)), (2, .int (x2)), (3, .int (nI (a1))), (4, .int (nI (d))), (5, .int (nI (f))), (6, .int (bI (d = K)))]) hx hb dX6_layWay_44 hl (by decide) rfl (fun ls hl => ?_)
            refine q_ic 0 hx hb dX6_layWay_46 (by decide) ?_
            refine lv_istore (lv' := [(9, .int (nI 0)), (7, .long (lN 0)), (0, .ref (ad 71)), (1, .int (-6)), (2, .int (x2)), (3, .int (nI (a1))), (4, .int (nI (d))), (5, .int (nI (f))), (6, .int (bI (d = K)))]) hx hb dX6_layWay_47 hl (by decide) rfl (fun ls hl => ?_)
            have lp_49 : ∀ (fu_49 : Nat) (t1 : Nat), 6 - t1 < fu_49 → (t1 ≤ 6) → ∀ (H : Heap) (locs : List Loc), Wd G n ad I1 L1 R (qA n ad s.heap.size) s.heap H locs s → ∀ ls : Array Slot, lv_has ls 14 [(0, .ref (ad 71)), (1, .int (-6)), (2, .int (x2)), (3, .int (nI (a1))), (4, .int (nI (d))), (5, .int (nI (f))), (7, .long (lN (fM w ro K d f t1))), (9, .int (nI (t1)))] → W p_ l e_ ({ frames := 2, cells := 0, slots := 0, locals := 72 } : Room) s m_ ([.ref (ad 71), .int (-6)] : List Value).toArray below meth c_ H locs 0 0 (MQ below (qI1 G (qA n ad s.heap.size) n ad R (fun z I1 L1 => z = nI (rkN w ro K 0 6 (wayM w ro K)) ∧ FoB (wayM w ro K) (prN w ro K 0 6 (wayM w ro K)) I1 L1 ∧ (∀ a, a ≠ 71 → a ≠ 81 → I1 a = I a) ∧ (∀ j, j ≠ 12 → I1 71 j = I 71 j) ∧ (∀ a, a ≠ 71 → L1 a = L a))) ([.ref (ad 71), .int (-6)] : List Value).toArray s 0 0 (qA n ad s.heap.size)) (F0 m_ 49 ls []) := by
              intro fu_49
              induction fu_49 with
              | zero =>
                intro t1 hm; exact absurd hm (Nat.not_lt_zero _)
              | succ fu_49 ih_49 =>
                intro t1 hm_49 ht6 H locs hW ls hl
                refine lv_iload hx hb dX6_layWay_49 (lv_at hl 7 rfl) ?_
                refine q_bp 6 hx hb dX6_layWay_51 (by decide) ?_
                refine q_cge (tgt := 147) hx hb dX6_layWay_53 (by decide) (by first | omega | exact Nat.lt_of_le_of_lt (hw3 _) (by decide)) (by first | omega | exact Nat.lt_of_le_of_lt (hw3 _) (by decide)) (fun c_53 => ?_) (fun c_53 => ?_)
                ·
                  have e6 : t1 = 6 := by omega
                  subst e6
                  refine q_ic 0 hx hb dX6_layWay_147 (by decide) ?_
                  refine lv_istore (lv' := [(9, .int (nI 0)), (0, .ref (ad 71)), (1, .int (-6)), (2, .int (x2)), (3, .int (nI (a1))), (4, .int (nI (d))), (5, .int (nI (f))), (7, .long (lN (fM w ro K d f 6)))]) hx hb dX6_layWay_148 hl (by decide) rfl (fun ls hl => ?_)
                  refine q_ic 0 hx hb dX6_layWay_150 (by decide) ?_
                  refine lv_istore (lv' := [(10, .int (nI 0)), (9, .int (nI 0)), (0, .ref (ad 71)), (1, .int (-6)), (2, .int (x2)), (3, .int (nI (a1))), (4, .int (nI (d))), (5, .int (nI (f))), (7, .long (lN (fM w ro K d f 6)))]) hx hb dX6_layWay_151 hl (by decide) rfl (fun ls hl => ?_)
                  have lp_153 : ∀ (fu_153 : Nat) (t1 : Nat) (x3 : Int32), 6 - t1 < fu_153 → (t1 ≤ 6) → (∀ i, i < t1 → ¬ okM w ro K d f i = true) → ∀ (H : Heap) (locs : List Loc), Wd G n ad I1 L1 R (qA n ad s.heap.size) s.heap H locs s → ∀ ls : Array Slot, lv_has ls 14 [(0, .ref (ad 71)), (1, .int (-6)), (2, .int (x3)), (3, .int (nI (a1 + fC w ro K d f t1))), (4, .int (nI (d))), (5, .int (nI (f))), (7, .long (lN (fM w ro K d f 6))), (9, .int (nI 0)), (10, .int (nI (t1)))] → W p_ l e_ ({ frames := 2, cells := 0, slots := 0, locals := 72 } : Room) s m_ ([.ref (ad 71), .int (-6)] : List Value).toArray below meth c_ H locs 0 0 (MQ below (qI1 G (qA n ad s.heap.size) n ad R (fun z I1 L1 => z = nI (rkN w ro K 0 6 (wayM w ro K)) ∧ FoB (wayM w ro K) (prN w ro K 0 6 (wayM w ro K)) I1 L1 ∧ (∀ a, a ≠ 71 → a ≠ 81 → I1 a = I a) ∧ (∀ j, j ≠ 12 → I1 71 j = I 71 j) ∧ (∀ a, a ≠ 71 → L1 a = L a))) ([.ref (ad 71), .int (-6)] : List Value).toArray s 0 0 (qA n ad s.heap.size)) (F0 m_ 153 ls []) := by
                    intro fu_153
                    induction fu_153 with
                    | zero =>
                      intro t1 x3 hm; exact absurd hm (Nat.not_lt_zero _)
                    | succ fu_153 ih_153 =>
                      intro t1 x3 hm_153 ht6 hno H locs hW ls hl
                      refine lv_iload hx hb dX6_layWay_153 (lv_at hl 8 rfl) ?_
                      refine q_bp 6 hx hb dX6_layWay_155 (by decide) ?_
                      refine q_cge (tgt := 353) hx hb dX6_layWay_157 (by decide) (by first | omega | exact Nat.lt_of_le_of_lt (hw3 _) (by decide)) (by first | omega | exact Nat.lt_of_le_of_lt (hw3 _) (by decide)) (fun c_157 => absurd (chM_ok hw hdK hGI.2) (hno _ (by have h9 := chM_lt w ro K d f; omega))) (fun c_157 => ?_)
                      refine lv_iload hx hb dX6_layWay_160 (lv_at hl 7 rfl) ?_
                      refine q_ine (tgt := 353) hx hb dX6_layWay_162 (by decide) (by first | omega | exact Nat.lt_of_le_of_lt (hw3 _) (by decide)) (fun c_162 => absurd c_162 (by decide)) (fun c_162 => ?_)
                      refine lv_aload_n hx hb dX6_layWay_165 rfl (lv_at hl 0 rfl) ?_
                      refine lv_iload hx hb dX6_layWay_166 (lv_at hl 5 rfl) ?_
                      refine lv_if_ge (tgt := 181) hx hb dX6_layWay_168 (by decide) (fun c_168 => ?_) (fun c_168 => absurd (Int32.not_lt.mp (nI_pos (by omega))) c_168)
                      refine lv_aload_n hx hb dX6_layWay_181 rfl (lv_at hl 0 rfl) ?_
                      refine lv_iload hx hb dX6_layWay_182 (lv_at hl 5 rfl) ?_
                      refine lv_iload hx hb dX6_layWay_184 (lv_at hl 8 rfl) ?_
                      refine q_kI0 (q_rV (As := [.int (nI (f)), .int (nI (t1))]) (rest := [.ref (ad 71)]) (x := 71) hC hW mw_X6_step gw_586 (k_step l G n ad H.size I1 L1 R _ _ (by omega) (by omega) w K ro hn hlk hN1) (by omega) (ct_o6 kd_71) rfl ⟨rfl, rfl⟩ ⟨Nat.le_of_ble_eq_true rfl, Nat.le_of_ble_eq_true rfl⟩ ⟨(Nat.le_of_ble_eq_true rfl), (Nat.le_of_ble_eq_true rfl)⟩ hl.1 rfl rfl (Nat.le_of_ble_eq_true rfl) dX6_layWay_186) hW (fun r_186 H locs hp hW => ?_)
                      subst hp
                      refine lv_iload hx hb dX6_layWay_189 (lv_at hl 8 rfl) ?_
                      refine lv_iload hx hb dX6_layWay_191 (lv_at hl 4 rfl) ?_
                      refine q_kI0 (q_rV (As := [.int (nI (w (f * 6 + t1))), .int (nI (t1)), .int (nI (d))]) (rest := []) (x := 71) hC hW mw_X6_going gw_590 (k_going l G n ad H.size I1 L1 R _ _ _ (hw3 _) (by omega) (by omega) w K ro hn hlk hN1) (by omega) (ct_o6 kd_71) rfl ⟨rfl, rfl⟩ ⟨Nat.le_of_ble_eq_true rfl, Nat.le_of_ble_eq_true rfl⟩ ⟨(Nat.le_of_ble_eq_true rfl), (Nat.le_of_ble_eq_true rfl)⟩ hl.1 rfl rfl (Nat.le_of_ble_eq_true rfl) dX6_layWay_193) hW (fun r_193 H locs hp hW => ?_)
                      subst hp
                      refine q_top (v2 := .int (nI (mv w K ro f t1 d))) rfl ?_
                      have hm9 := mv_le hw K ro f t1 d
                      refine lv_istore (lv' := [(11, .int (nI (mv w K ro f t1 d))), (0, .ref (ad 71)), (1, .int (-6)), (2, .int (x3)), (3, .int (nI (a1 + fC w ro K d f t1))), (4, .int (nI (d))), (5, .int (nI (f))), (7, .long (lN (fM w ro K d f 6))), (9, .int (nI 0)), (10, .int (nI (t1)))]) hx hb dX6_layWay_196 hl (by decide) rfl (fun ls hl => ?_)
                      refine q_bp 7 hx hb dX6_layWay_198 (by decide) ?_
                      refine lv_iload hx hb dX6_layWay_200 (lv_at hl 9 rfl) ?_
                      refine q_imul hx hb dX6_layWay_202 ?_
                      refine lv_iload hx hb dX6_layWay_203 (lv_at hl 9 rfl) ?_
                      refine lv_iload hx hb dX6_layWay_205 (lv_at hl 5 rfl) ?_
                      refine q_kI0 (q_rS (As := [.int (nI (t1)), .int (nI (d))]) (rest := [.int (nI (7 * t1))]) hC hW mw_X6_toldThen gw_598 (k_toldThen l G n ad H.size I1 L1 R _ _ (by omega) (by omega)) ⟨rfl, rfl⟩ ⟨Nat.le_of_ble_eq_true rfl, Nat.le_of_ble_eq_true rfl⟩ ⟨(Nat.le_of_ble_eq_true rfl), (Nat.le_of_ble_eq_true rfl)⟩ hl.1 rfl rfl (Nat.le_of_ble_eq_true rfl) dX6_layWay_207) hW (fun r_207 H locs hp hW => ?_)
                      subst hp
                      refine q_iadd hx hb dX6_layWay_210 ?_
                      refine lv_istore (lv' := [(12, .int (nI ((7 * t1) + (nx t1 d)))), (11, .int (nI (mv w K ro f t1 d))), (0, .ref (ad 71)), (1, .int (-6)), (2, .int (x3)), (3, .int (nI (a1 + fC w ro K d f t1))), (4, .int (nI (d))), (5, .int (nI (f))), (7, .long (lN (fM w ro K d f 6))), (9, .int (nI 0)), (10, .int (nI (t1)))]) hx hb dX6_layWay_211 hl (by decide) rfl (fun ls hl => ?_)
                      refine lv_iload hx hb dX6_layWay_213 (lv_at hl 1 rfl) ?_
                      refine q_ile (tgt := 228) hx hb dX6_layWay_215 (by decide) (by first | omega | exact Nat.lt_of_le_of_lt (hw3 _) (by decide)) (fun c_215 => ?_) (fun c_215 => ?_)
                      ·
                        have hz1 : mv w K ro f t1 d = 0 := by omega
                        refine q_ic 0 hx hb dX6_layWay_228 (by decide) ?_
                        have hrb := rtN_b hw (r := ro) (K := K) (d := d) (f := f) (t := t1) hk6
                        refine q_top (v2 := .int (nI (rtN w ro K d f t1))) (by rw [rt_n hz1]) ?_
                        refine lv_istore (lv' := [(13, .int (nI (rtN w ro K d f t1))), (12, .int (nI ((7 * t1) + (nx t1 d)))), (11, .int (nI (mv w K ro f t1 d))), (0, .ref (ad 71)), (1, .int (-6)), (2, .int (x3)), (3, .int (nI (a1 + fC w ro K d f t1))), (4, .int (nI (d))), (5, .int (nI (f))), (7, .long (lN (fM w ro K d f 6))), (9, .int (nI 0)), (10, .int (nI (t1)))]) hx hb dX6_layWay_229 hl (by decide) rfl (fun ls hl => ?_)
                        refine lv_iload_n hx hb dX6_layWay_231 rfl (lv_at hl 4 rfl) ?_
                        refine lv_if_ge (tgt := 270) hx hb dX6_layWay_232 (by decide) (fun c_232 => absurd c_232 (by decide)) (fun c_232 => ?_)
                        refine lv_iload hx hb dX6_layWay_235 (lv_at hl 2 rfl) ?_
                        refine q_ile (tgt := 266) hx hb dX6_layWay_237 (by decide) (by first | omega | exact Nat.lt_of_le_of_lt (hw3 _) (by decide)) (fun c_237 => ?_) (fun c_237 => absurd c_237 (by omega))
                        refine q_ic 0 hx hb dX6_layWay_266 (by decide) ?_
                        refine lv_goto (tgt := 281) hx hb dX6_layWay_267 (by decide) ?_
                        have hnot : ¬ okM w ro K d f t1 = true := fun q9 => by have h8 := (okM_iff.mp q9).1; rw [rt_n hz1] at h8; omega
                        refine lv_istore (lv' := [(9, .int (nI 0)), (13, .int (nI (rtN w ro K d f t1))), (12, .int (nI ((7 * t1) + (nx t1 d)))), (11, .int (nI (mv w K ro f t1 d))), (0, .ref (ad 71)), (1, .int (-6)), (2, .int (x3)), (3, .int (nI (a1 + fC w ro K d f t1))), (4, .int (nI (d))), (5, .int (nI (f))), (7, .long (lN (fM w ro K d f 6))), (10, .int (nI (t1)))]) hx hb dX6_layWay_281 hl (by decide) rfl (fun ls hl => ?_)
                        refine lv_iload hx hb dX6_layWay_283 (lv_at hl 0 rfl) ?_
                        refine q_ieq (tgt := 337) hx hb dX6_layWay_285 (by decide) (by first | omega | exact Nat.lt_of_le_of_lt (hw3 _) (by decide)) (fun c_285 => ?_) (fun c_285 => absurd c_285 (by decide))
                        refine lv_iload_n hx hb dX6_layWay_337 rfl (lv_at hl 6 rfl) ?_
                        refine lv_iload hx hb dX6_layWay_338 (lv_at hl 1 rfl) ?_
                        refine lv_isub hx hb dX6_layWay_340 ?_
                        refine lv_istore_n (lv' := [(2, .int (x3 - (nI (rtN w ro K d f t1)))), (9, .int (nI 0)), (13, .int (nI (rtN w ro K d f t1))), (12, .int (nI ((7 * t1) + (nx t1 d)))), (11, .int (nI (mv w K ro f t1 d))), (0, .ref (ad 71)), (1, .int (-6)), (3, .int (nI (a1 + fC w ro K d f t1))), (4, .int (nI (d))), (5, .int (nI (f))), (7, .long (lN (fM w ro K d f 6))), (10, .int (nI (t1)))]) hx hb dX6_layWay_341 rfl hl (by decide) rfl (fun ls hl => ?_)
                        refine lv_iload_n hx hb dX6_layWay_342 rfl (lv_at hl 7 rfl) ?_
                        refine lv_iload hx hb dX6_layWay_343 (lv_at hl 2 rfl) ?_
                        refine q_iadd hx hb dX6_layWay_345 ?_
                        refine q_top (v2 := .int (nI (a1 + fC w ro K d f (t1 + 1)))) (by rw [fC_s, Nat.add_assoc]) ?_
                        refine lv_istore_n (lv' := [(3, .int (nI (a1 + fC w ro K d f (t1 + 1)))), (2, .int (x3 - (nI (rtN w ro K d f t1)))), (9, .int (nI 0)), (13, .int (nI (rtN w ro K d f t1))), (12, .int (nI ((7 * t1) + (nx t1 d)))), (11, .int (nI (mv w K ro f t1 d))), (0, .ref (ad 71)), (1, .int (-6)), (4, .int (nI (d))), (5, .int (nI (f))), (7, .long (lN (fM w ro K d f 6))), (10, .int (nI (t1)))]) hx hb dX6_layWay_346 rfl hl (by decide) rfl (fun ls hl => ?_)
                        refine q_iinc (z2 := t1 + 1) (lv' := [(10, .int (nI (t1 + 1))), (3, .int (nI (a1 + fC w ro K d f (t1 + 1)))), (2, .int (x3 - (nI (rtN w ro K d f t1)))), (9, .int (nI 0)), (13, .int (nI (rtN w ro K d f t1))), (12, .int (nI ((7 * t1) + (nx t1 d)))), (11, .int (nI (mv w K ro f t1 d))), (0, .ref (ad 71)), (1, .int (-6)), (4, .int (nI (d))), (5, .int (nI (f))), (7, .long (lN (fM w ro K d f 6)))]) hx hb dX6_layWay_347 hl (k := 11) rfl (inc_up _ 1 (by decide)) (by decide) rfl (fun ls hl => ?_)
                        refine lv_goto (tgt := 153) hx hb dX6_layWay_350 (by decide) ?_
                        exact ih_153 (t1 + 1) (x3 - (nI (rtN w ro K d f t1))) (by omega) (by omega) (fun i hi => by by_cases e9 : i = t1; (rw [e9]; exact hnot); exact hno i (by omega)) _ _ hW _ (lv_sub hl [7, 8, 2, 1, 9, 10, 11, 3, 0] rfl)
                      ·
                        have hp1 : 0 < mv w K ro f t1 d := by omega
                        have hnx : nx t1 d ≤ K := nx_K2 hp1 (by omega)
                        have hmb := mM_lt hw (r := ro) K d f t1 hk6
                        refine lv_aload_n hx hb dX6_layWay_218 rfl (lv_at hl 2 rfl) ?_
                        refine g_6_9 (x := 71) (y := 79) hC hW (by omega) kd_71 gw_492 (hlk 71 9 79 (by omega) rfl) dX6_layWay_219 ?_
                        refine lv_iload hx hb dX6_layWay_222 (lv_at hl 0 rfl) ?_
                        refine q_iald (x := 79) (i := (7 * t1) + (nx t1 d)) hC hW (by omega) kd_79 (by omega) dX6_layWay_224 ?_
                        refine q_top (v2 := .int (nI (Cx' w K ro (K - (nx t1 d)) t1))) (congrArg _ (hB1 (nx t1 d) t1 (by omega) hnx (by omega)).2.2) ?_
                        refine lv_goto (tgt := 229) hx hb dX6_layWay_225 (by decide) ?_
                        have hrb := rtN_b hw (r := ro) (K := K) (d := d) (f := f) (t := t1) hk6
                        refine q_top (v2 := .int (nI (rtN w ro K d f t1))) (by rw [rt_p hp1]) ?_
                        refine lv_istore (lv' := [(13, .int (nI (rtN w ro K d f t1))), (12, .int (nI ((7 * t1) + (nx t1 d)))), (11, .int (nI (mv w K ro f t1 d))), (0, .ref (ad 71)), (1, .int (-6)), (2, .int (x3)), (3, .int (nI (a1 + fC w ro K d f t1))), (4, .int (nI (d))), (5, .int (nI (f))), (7, .long (lN (fM w ro K d f 6))), (9, .int (nI 0)), (10, .int (nI (t1)))]) hx hb dX6_layWay_229 hl (by decide) rfl (fun ls hl => ?_)
                        refine lv_iload_n hx hb dX6_layWay_231 rfl (lv_at hl 4 rfl) ?_
                        refine lv_if_ge (tgt := 270) hx hb dX6_layWay_232 (by decide) (fun c_232 => absurd c_232 (by decide)) (fun c_232 => ?_)
                        refine lv_iload hx hb dX6_layWay_235 (lv_at hl 2 rfl) ?_
                        refine q_ile (tgt := 266) hx hb dX6_layWay_237 (by decide) (by first | omega | exact Nat.lt_of_le_of_lt (hw3 _) (by decide)) (fun c_237 => absurd c_237 (by omega)) (fun c_237 => ?_)
                        refine lv_iload hx hb dX6_layWay_240 (lv_at hl 2 rfl) ?_
                        refine q_i2l hx hb dX6_layWay_242 (by first | omega | exact Nat.lt_of_le_of_lt (hw3 _) (by decide)) ?_
                        refine lv_aload_n hx hb dX6_layWay_243 rfl (lv_at hl 3 rfl) ?_
                        refine g_6_10 (x := 71) (y := 80) hC hW (by omega) kd_71 gw_493 (hlk 71 10 80 (by omega) rfl) dX6_layWay_244 ?_
                        refine lv_iload hx hb dX6_layWay_247 (lv_at hl 1 rfl) ?_
                        refine q_lald (x := 80) (i := (7 * t1) + (nx t1 d)) hC hW (by omega) kd_80 (by omega) dX6_layWay_249 ?_
                        refine q_top (v2 := .long (lN (Mx' w K ro (K - (nx t1 d)) t1))) (congrArg _ (hB1 (nx t1 d) t1 (by omega) hnx (by omega)).2.1) ?_
                        refine q_lmul hx hb dX6_layWay_250 ?_
                        refine lv_lload hx hb dX6_layWay_251 (lv_at hl 9 rfl) ?_
                        refine q_lcmp hx hb dX6_layWay_253 ?_
                        refine q_lne (tgt := 266) hx hb dX6_layWay_254 (by decide) hmb (Nat.lt_of_le_of_lt (fM_b hw (r := ro) K d f 6 hk6) (by decide)) (fun c_254 => ?_) (fun c_254 => ?_)
                        ·
                          refine q_ic 0 hx hb dX6_layWay_266 (by decide) ?_
                          refine lv_goto (tgt := 281) hx hb dX6_layWay_267 (by decide) ?_
                          have hnot : ¬ okM w ro K d f t1 = true := fun q9 => by have h9 := okM_iff.mp q9; have h8 := h9.1; first | omega | exact absurd (h9.2.trans hMf.symm) c_254
                          refine lv_istore (lv' := [(9, .int (nI 0)), (13, .int (nI (rtN w ro K d f t1))), (12, .int (nI ((7 * t1) + (nx t1 d)))), (11, .int (nI (mv w K ro f t1 d))), (0, .ref (ad 71)), (1, .int (-6)), (2, .int (x3)), (3, .int (nI (a1 + fC w ro K d f t1))), (4, .int (nI (d))), (5, .int (nI (f))), (7, .long (lN (fM w ro K d f 6))), (10, .int (nI (t1)))]) hx hb dX6_layWay_281 hl (by decide) rfl (fun ls hl => ?_)
                          refine lv_iload hx hb dX6_layWay_283 (lv_at hl 0 rfl) ?_
                          refine q_ieq (tgt := 337) hx hb dX6_layWay_285 (by decide) (by first | omega | exact Nat.lt_of_le_of_lt (hw3 _) (by decide)) (fun c_285 => ?_) (fun c_285 => absurd c_285 (by decide))
                          refine lv_iload_n hx hb dX6_layWay_337 rfl (lv_at hl 6 rfl) ?_
                          refine lv_iload hx hb dX6_layWay_338 (lv_at hl 1 rfl) ?_
                          refine lv_isub hx hb dX6_layWay_340 ?_
                          refine lv_istore_n (lv' := [(2, .int (x3 - (nI (rtN w ro K d f t1)))), (9, .int (nI 0)), (13, .int (nI (rtN w ro K d f t1))), (12, .int (nI ((7 * t1) + (nx t1 d)))), (11, .int (nI (mv w K ro f t1 d))), (0, .ref (ad 71)), (1, .int (-6)), (3, .int (nI (a1 + fC w ro K d f t1))), (4, .int (nI (d))), (5, .int (nI (f))), (7, .long (lN (fM w ro K d f 6))), (10, .int (nI (t1)))]) hx hb dX6_layWay_341 rfl hl (by decide) rfl (fun ls hl => ?_)
                          refine lv_iload_n hx hb dX6_layWay_342 rfl (lv_at hl 7 rfl) ?_
                          refine lv_iload hx hb dX6_layWay_343 (lv_at hl 2 rfl) ?_
                          refine q_iadd hx hb dX6_layWay_345 ?_
                          refine q_top (v2 := .int (nI (a1 + fC w ro K d f (t1 + 1)))) (by rw [fC_s, Nat.add_assoc]) ?_
                          refine lv_istore_n (lv' := [(3, .int (nI (a1 + fC w ro K d f (t1 + 1)))), (2, .int (x3 - (nI (rtN w ro K d f t1)))), (9, .int (nI 0)), (13, .int (nI (rtN w ro K d f t1))), (12, .int (nI ((7 * t1) + (nx t1 d)))), (11, .int (nI (mv w K ro f t1 d))), (0, .ref (ad 71)), (1, .int (-6)), (4, .int (nI (d))), (5, .int (nI (f))), (7, .long (lN (fM w ro K d f 6))), (10, .int (nI (t1)))]) hx hb dX6_layWay_346 rfl hl (by decide) rfl (fun ls hl => ?_)
                          refine q_iinc (z2 := t1 + 1) (lv' := [(10, .int (nI (t1 + 1))), (3, .int (nI (a1 + fC w ro K d f (t1 + 1)))), (2, .int (x3 - (nI (rtN w ro K d f t1)))), (9, .int (nI 0)), (13, .int (nI (rtN w ro K d f t1))), (12, .int (nI ((7 * t1) + (nx t1 d)))), (11, .int (nI (mv w K ro f t1 d))), (0, .ref (ad 71)), (1, .int (-6)), (4, .int (nI (d))), (5, .int (nI (f))), (7, .long (lN (fM w ro K d f 6)))]) hx hb dX6_layWay_347 hl (k := 11) rfl (inc_up _ 1 (by decide)) (by decide) rfl (fun ls hl => ?_)
                          refine lv_goto (tgt := 153) hx hb dX6_layWay_350 (by decide) ?_
                          exact ih_153 (t1 + 1) (x3 - (nI (rtN w ro K d f t1))) (by omega) (by omega) (fun i hi => by by_cases e9 : i = t1; (rw [e9]; exact hnot); exact hno i (by omega)) _ _ hW _ (lv_sub hl [7, 8, 2, 1, 9, 10, 11, 3, 0] rfl)
                        ·
                          refine lv_iload hx hb dX6_layWay_257 (lv_at hl 0 rfl) ?_
                          refine q_ile (tgt := 266) hx hb dX6_layWay_259 (by decide) (by first | omega | exact Nat.lt_of_le_of_lt (hw3 _) (by decide)) (fun c_259 => ?_) (fun c_259 => ?_)
                          ·
                            refine q_ic 0 hx hb dX6_layWay_266 (by decide) ?_
                            refine lv_goto (tgt := 281) hx hb dX6_layWay_267 (by decide) ?_
                            have hnot : ¬ okM w ro K d f t1 = true := fun q9 => by have h9 := okM_iff.mp q9; have h8 := h9.1; first | omega | exact absurd (h9.2.trans hMf.symm) c_254
                            refine lv_istore (lv' := [(9, .int (nI 0)), (13, .int (nI (rtN w ro K d f t1))), (12, .int (nI ((7 * t1) + (nx t1 d)))), (11, .int (nI (mv w K ro f t1 d))), (0, .ref (ad 71)), (1, .int (-6)), (2, .int (x3)), (3, .int (nI (a1 + fC w ro K d f t1))), (4, .int (nI (d))), (5, .int (nI (f))), (7, .long (lN (fM w ro K d f 6))), (10, .int (nI (t1)))]) hx hb dX6_layWay_281 hl (by decide) rfl (fun ls hl => ?_)
                            refine lv_iload hx hb dX6_layWay_283 (lv_at hl 0 rfl) ?_
                            refine q_ieq (tgt := 337) hx hb dX6_layWay_285 (by decide) (by first | omega | exact Nat.lt_of_le_of_lt (hw3 _) (by decide)) (fun c_285 => ?_) (fun c_285 => absurd c_285 (by decide))
                            refine lv_iload_n hx hb dX6_layWay_337 rfl (lv_at hl 6 rfl) ?_
                            refine lv_iload hx hb dX6_layWay_338 (lv_at hl 1 rfl) ?_
                            refine lv_isub hx hb dX6_layWay_340 ?_
                            refine lv_istore_n (lv' := [(2, .int (x3 - (nI (rtN w ro K d f t1)))), (9, .int (nI 0)), (13, .int (nI (rtN w ro K d f t1))), (12, .int (nI ((7 * t1) + (nx t1 d)))), (11, .int (nI (mv w K ro f t1 d))), (0, .ref (ad 71)), (1, .int (-6)), (3, .int (nI (a1 + fC w ro K d f t1))), (4, .int (nI (d))), (5, .int (nI (f))), (7, .long (lN (fM w ro K d f 6))), (10, .int (nI (t1)))]) hx hb dX6_layWay_341 rfl hl (by decide) rfl (fun ls hl => ?_)
                            refine lv_iload_n hx hb dX6_layWay_342 rfl (lv_at hl 7 rfl) ?_
                            refine lv_iload hx hb dX6_layWay_343 (lv_at hl 2 rfl) ?_
                            refine q_iadd hx hb dX6_layWay_345 ?_
                            refine q_top (v2 := .int (nI (a1 + fC w ro K d f (t1 + 1)))) (by rw [fC_s, Nat.add_assoc]) ?_
                            refine lv_istore_n (lv' := [(3, .int (nI (a1 + fC w ro K d f (t1 + 1)))), (2, .int (x3 - (nI (rtN w ro K d f t1)))), (9, .int (nI 0)), (13, .int (nI (rtN w ro K d f t1))), (12, .int (nI ((7 * t1) + (nx t1 d)))), (11, .int (nI (mv w K ro f t1 d))), (0, .ref (ad 71)), (1, .int (-6)), (4, .int (nI (d))), (5, .int (nI (f))), (7, .long (lN (fM w ro K d f 6))), (10, .int (nI (t1)))]) hx hb dX6_layWay_346 rfl hl (by decide) rfl (fun ls hl => ?_)
                            refine q_iinc (z2 := t1 + 1) (lv' := [(10, .int (nI (t1 + 1))), (3, .int (nI (a1 + fC w ro K d f (t1 + 1)))), (2, .int (x3 - (nI (rtN w ro K d f t1)))), (9, .int (nI 0)), (13, .int (nI (rtN w ro K d f t1))), (12, .int (nI ((7 * t1) + (nx t1 d)))), (11, .int (nI (mv w K ro f t1 d))), (0, .ref (ad 71)), (1, .int (-6)), (4, .int (nI (d))), (5, .int (nI (f))), (7, .long (lN (fM w ro K d f 6)))]) hx hb dX6_layWay_347 hl (k := 11) rfl (inc_up _ 1 (by decide)) (by decide) rfl (fun ls hl => ?_)
                            refine lv_goto (tgt := 153) hx hb dX6_layWay_350 (by decide) ?_
                            exact ih_153 (t1 + 1) (x3 - (nI (rtN w ro K d f t1))) (by omega) (by omega) (fun i hi => by by_cases e9 : i = t1; (rw [e9]; exact hnot); exact hno i (by omega)) _ _ hW _ (lv_sub hl [7, 8, 2, 1, 9, 10, 11, 3, 0] rfl)
                          ·
                            refine q_ic 1 hx hb dX6_layWay_262 (by decide) ?_
                            refine lv_goto (tgt := 281) hx hb dX6_layWay_263 (by decide) ?_
                            have hok : okM w ro K d f t1 = true := okM_iff.mpr ⟨by omega, (show mv w K ro f t1 d * Mx' w K ro (K - nx t1 d) t1 = _ from c_254).trans hMf⟩
                            refine lv_istore (lv' := [(9, .int (nI 1)), (13, .int (nI (rtN w ro K d f t1))), (12, .int (nI ((7 * t1) + (nx t1 d)))), (11, .int (nI (mv w K ro f t1 d))), (0, .ref (ad 71)), (1, .int (-6)), (2, .int (x3)), (3, .int (nI (a1 + fC w ro K d f t1))), (4, .int (nI (d))), (5, .int (nI (f))), (7, .long (lN (fM w ro K d f 6))), (10, .int (nI (t1)))]) hx hb dX6_layWay_281 hl (by decide) rfl (fun ls hl => ?_)
                            refine lv_iload hx hb dX6_layWay_283 (lv_at hl 0 rfl) ?_
                            refine q_ieq (tgt := 337) hx hb dX6_layWay_285 (by decide) (by first | omega | exact Nat.lt_of_le_of_lt (hw3 _) (by decide)) (fun c_285 => absurd c_285 (by decide)) (fun c_285 => ?_)
                            refine lv_aload_n hx hb dX6_layWay_288 rfl (lv_at hl 4 rfl) ?_
                            refine g_6_11 (x := 71) (y := 81) hC hW (by omega) kd_71 gw_494 (hlk 71 11 81 (by omega) rfl) dX6_layWay_289 ?_
                            refine lv_aload_n hx hb dX6_layWay_292 rfl (lv_at hl 4 rfl) ?_
                            refine g_6_12 (x := 71) hC hW (by omega) kd_71 gw_495 dX6_layWay_293 ?_
                            refine q_top (v2 := .int (nI (s1))) (congrArg _ hF.2.1) ?_
                            refine lv_iload hx hb dX6_layWay_296 (lv_at hl 11 rfl) ?_
                            refine q_iast (x := 81) (i := s1) (v := nI t1) hC hW (by omega) kd_81 (by omega) dX6_layWay_298 (fun H locs hW => ?_)
                            refine lv_aload_n hx hb dX6_layWay_299 rfl (lv_at hl 4 rfl) ?_
                            refine lv_dup hx hb dX6_layWay_300 rfl ?_
                            refine g_6_12 (x := 71) hC hW (by omega) kd_71 gw_495 dX6_layWay_301 ?_
                            refine q_top (v2 := .int (nI (s1))) (congrArg _ (by rw [up2_ne (by decide)]; exact hF.2.1)) ?_
                            refine q_ic 1 hx hb dX6_layWay_304 (by decide) ?_
                            refine q_iadd hx hb dX6_layWay_305 ?_
                            refine p_6_12 (x := 71) (v := nI (s1 + 1)) hC hW (by omega) kd_71 gw_495 dX6_layWay_306 (fun H locs hW => ?_)
                            refine lv_aload_n hx hb dX6_layWay_309 rfl (lv_at hl 4 rfl) ?_
                            refine lv_dup hx hb dX6_layWay_310 rfl ?_
                            refine g_6_13 (x := 71) hC hW (by omega) kd_71 gw_496 dX6_layWay_311 ?_
                            refine lv_iload hx hb dX6_layWay_314 (lv_at hl 3 rfl) ?_
                            refine q_i2l hx hb dX6_layWay_316 (by first | omega | exact Nat.lt_of_le_of_lt (hw3 _) (by decide)) ?_
                            refine lv_lmul hx hb dX6_layWay_317 ?_
                            refine p_6_13 (x := 71) (v := (L1 71 13) * (lN (mv w K ro f t1 d))) hC hW (by omega) kd_71 gw_496 dX6_layWay_318 (fun H locs hW => ?_)
                            refine lv_iload hx hb dX6_layWay_321 (lv_at hl 11 rfl) ?_
                            refine lv_iload hx hb dX6_layWay_323 (lv_at hl 8 rfl) ?_
                            refine q_kI0 (q_rS (As := [.int (nI (t1)), .int (nI (d))]) (rest := []) hC hW mw_X6_toldThen gw_598 (k_toldThen l G n ad H.size (up2 (up2 I1 81 s1 (nI t1)) 71 12 (nI (s1 + 1))) (up2 L1 71 13 ((L1 71 13) * (lN (mv w K ro f t1 d)))) R _ _ (by omega) (by omega)) ⟨rfl, rfl⟩ ⟨Nat.le_of_ble_eq_true rfl, Nat.le_of_ble_eq_true rfl⟩ ⟨(Nat.le_of_ble_eq_true rfl), (Nat.le_of_ble_eq_true rfl)⟩ hl.1 rfl rfl (Nat.le_of_ble_eq_true rfl) dX6_layWay_325) hW (fun r_325 H locs hp hW => ?_)
                            subst hp
                            refine lv_istore (lv' := [(4, .int (nI (nx t1 d))), (9, .int (nI 1)), (13, .int (nI (rtN w ro K d f t1))), (12, .int (nI ((7 * t1) + (nx t1 d)))), (11, .int (nI (mv w K ro f t1 d))), (0, .ref (ad 71)), (1, .int (-6)), (2, .int (x3)), (3, .int (nI (a1 + fC w ro K d f t1))), (5, .int (nI (f))), (7, .long (lN (fM w ro K d f 6))), (10, .int (nI (t1)))]) hx hb dX6_layWay_328 hl (by decide) rfl (fun ls hl => ?_)
                            refine lv_iload hx hb dX6_layWay_330 (lv_at hl 11 rfl) ?_
                            refine lv_istore (lv' := [(5, .int (nI (t1))), (4, .int (nI (nx t1 d))), (9, .int (nI 1)), (13, .int (nI (rtN w ro K d f t1))), (12, .int (nI ((7 * t1) + (nx t1 d)))), (11, .int (nI (mv w K ro f t1 d))), (0, .ref (ad 71)), (1, .int (-6)), (2, .int (x3)), (3, .int (nI (a1 + fC w ro K d f t1))), (7, .long (lN (fM w ro K d f 6))), (10, .int (nI (t1)))]) hx hb dX6_layWay_332 hl (by decide) rfl (fun ls hl => ?_)
                            refine lv_goto (tgt := 347) hx hb dX6_layWay_334 (by decide) ?_
                            refine q_iinc (z2 := t1 + 1) (lv' := [(10, .int (nI (t1 + 1))), (5, .int (nI (t1))), (4, .int (nI (nx t1 d))), (9, .int (nI 1)), (13, .int (nI (rtN w ro K d f t1))), (12, .int (nI ((7 * t1) + (nx t1 d)))), (11, .int (nI (mv w K ro f t1 d))), (0, .ref (ad 71)), (1, .int (-6)), (2, .int (x3)), (3, .int (nI (a1 + fC w ro K d f t1))), (7, .long (lN (fM w ro K d f 6)))]) hx hb dX6_layWay_347 hl (k := 11) rfl (inc_up _ 1 (by decide)) (by decide) rfl (fun ls hl => ?_)
                            refine lv_goto (tgt := 153) hx hb dX6_layWay_350 (by decide) ?_
                            refine lv_iload hx hb dX6_layWay_153 (lv_at hl 0 rfl) ?_
                            refine q_bp 6 hx hb dX6_layWay_155 (by decide) ?_
                            refine q_cge (tgt := 353) hx hb dX6_layWay_157 (by decide) (by first | omega | exact Nat.lt_of_le_of_lt (hw3 _) (by decide)) (by first | omega | exact Nat.lt_of_le_of_lt (hw3 _) (by decide)) (fun c_157 => ?_) (fun c_157 => ?_)
                            ·
                              refine lv_iload hx hb dX6_layWay_353 (lv_at hl 1 rfl) ?_
                              refine q_ic 4 hx hb dX6_layWay_355 (by decide) ?_
                              refine q_cge (tgt := 375) hx hb dX6_layWay_356 (by decide) (by first | omega | exact Nat.lt_of_le_of_lt (hw3 _) (by decide)) (by first | omega | exact Nat.lt_of_le_of_lt (hw3 _) (by decide)) (fun c_356 => ?_) (fun c_356 => ?_)
                              ·
                                refine q_ic 0 hx hb dX6_layWay_375 (by decide) ?_
                                refine lv_istore (lv' := [(6, .int (nI 0)), (10, .int (nI (t1 + 1))), (5, .int (nI (t1))), (4, .int (nI (nx t1 d))), (9, .int (nI 1)), (13, .int (nI (rtN w ro K d f t1))), (12, .int (nI ((7 * t1) + (nx t1 d)))), (11, .int (nI (mv w K ro f t1 d))), (0, .ref (ad 71)), (1, .int (-6)), (2, .int (x3)), (3, .int (nI (a1 + fC w ro K d f t1))), (7, .long (lN (fM w ro K d f 6)))]) hx hb dX6_layWay_376 hl (by decide) rfl (fun ls hl => ?_)
                                have hnj := NJ_s hw hNJ hdK (show t1 < 6 by omega) hp1
                                have hbs := byM_s (w := w) (r := ro) hs18 hdK (show t1 < 6 by omega) hno hok
                                have hfj := FJ_s (hbs ▸ hF) hs18
                                have hq3 : a1 + fC w ro K d f t1 + rkN w ro K (nx t1 d) t1 (byM w ro K (19 - (s1 + 1)) (nx t1 d) t1) = rkN w ro K 0 6 (wayM w ro K) ∧ 0 < Cx' w K ro (K - nx t1 d) t1 := ⟨by rw [← hGI.1, hbs, Nat.add_assoc]; rfl, by have h8 := (okM_iff.mp hok).1; rw [rt_p hp1] at h8; exact h8⟩
                                have hen : bI (nx t1 d = K) = nI 0 := bI_f (by unfold nx; rw [if_neg (by omega)]; omega)
                                have hl : lv_has ls 14 [(6, .int (bI (nx t1 d = K))), (10, .int (nI (t1 + 1))), (5, .int (nI (t1))), (4, .int (nI (nx t1 d))), (9, .int (nI 1)), (13, .int (nI (rtN w ro K d f t1))), (12, .int (nI ((7 * t1) + (nx t1 d)))), (11, .int (nI (mv w K ro f t1 d))), (0, .ref (ad 71)), (1, .int (-6)), (2, .int (x3)), (3, .int (nI (a1 + fC w ro K d f t1))), (7, .long (lN (fM w ro K d f 6)))] := by rw [hen]; exact hl
                                have hl : lv_has ls 14 [(6, .int (bI (nx t1 d = K))), (10, .int (nI (t1 + 1))), (5, .int (fr6 t1)), (4, .int (nI (nx t1 d))), (9, .int (nI 1)), (13, .int (nI (rtN w ro K d f t1))), (12, .int (nI ((7 * t1) + (nx t1 d)))), (11, .int (nI (mv w K ro f t1 d))), (0, .ref (ad 71)), (1, .int (-6)), (2, .int (x3)), (3, .int (nI (a1 + fC w ro K d f t1))), (7, .long (lN (fM w ro K d f 6)))] := by rw [show fr6 t1 = nI t1 from if_neg (by omega)]; exact hl
                                refine lv_goto (tgt := 38) hx hb dX6_layWay_378 (by decide) ?_
                                exact ih_38 (s1 + 1) (nx t1 d) t1 x3 (a1 + fC w ro K d f t1) (up2 (up2 I1 81 s1 (nI t1)) 71 12 (nI (s1 + 1))) (up2 L1 71 13 ((L1 71 13) * (lN (mv w K ro f t1 d)))) (by omega) hfj hnj hq3 _ _ hW _ (lv_sub hl [8, 9, 10, 11, 3, 2, 0] rfl)
                              ·
                                refine lv_iload hx hb dX6_layWay_359 (lv_at hl 2 rfl) ?_
                                refine lv_aload_n hx hb dX6_layWay_361 rfl (lv_at hl 7 rfl) ?_
                                refine g_6_0 (x := 71) (y := 72) hC hW (by omega) kd_71 gw_483 (hlk 71 0 72 (by omega) rfl) dX6_layWay_362 ?_
                                refine q_bp 58 hx hb dX6_layWay_365 (by decide) ?_
                                refine q_iald (x := 72) (i := 58) hC hW (by omega) kd_72 (by omega) dX6_layWay_367 ?_
                                refine q_top (v2 := .int (nI (K))) (congrArg _ (by rw [up2_ne (by decide), up2_ne (by decide)]; exact hN1.2.1)) ?_
                                refine q_cne (tgt := 375) hx hb dX6_layWay_368 (by decide) (by first | omega | exact Nat.lt_of_le_of_lt (hw3 _) (by decide)) (by first | omega | exact Nat.lt_of_le_of_lt (hw3 _) (by decide)) (fun c_368 => ?_) (fun c_368 => ?_)
                                ·
                                  refine q_ic 0 hx hb dX6_layWay_375 (by decide) ?_
                                  refine lv_istore (lv' := [(6, .int (nI 0)), (10, .int (nI (t1 + 1))), (5, .int (nI (t1))), (4, .int (nI (nx t1 d))), (9, .int (nI 1)), (13, .int (nI (rtN w ro K d f t1))), (12, .int (nI ((7 * t1) + (nx t1 d)))), (11, .int (nI (mv w K ro f t1 d))), (0, .ref (ad 71)), (1, .int (-6)), (2, .int (x3)), (3, .int (nI (a1 + fC w ro K d f t1))), (7, .long (lN (fM w ro K d f 6)))]) hx hb dX6_layWay_376 hl (by decide) rfl (fun ls hl => ?_)
                                  have hnj := NJ_s hw hNJ hdK (show t1 < 6 by omega) hp1
                                  have hbs := byM_s (w := w) (r := ro) hs18 hdK (show t1 < 6 by omega) hno hok
                                  have hfj := FJ_s (hbs ▸ hF) hs18
                                  have hq3 : a1 + fC w ro K d f t1 + rkN w ro K (nx t1 d) t1 (byM w ro K (19 - (s1 + 1)) (nx t1 d) t1) = rkN w ro K 0 6 (wayM w ro K) ∧ 0 < Cx' w K ro (K - nx t1 d) t1 := ⟨by rw [← hGI.1, hbs, Nat.add_assoc]; rfl, by have h8 := (okM_iff.mp hok).1; rw [rt_p hp1] at h8; exact h8⟩
                                  have hen : bI (nx t1 d = K) = nI 0 := bI_f (by omega)
                                  have hl : lv_has ls 14 [(6, .int (bI (nx t1 d = K))), (10, .int (nI (t1 + 1))), (5, .int (nI (t1))), (4, .int (nI (nx t1 d))), (9, .int (nI 1)), (13, .int (nI (rtN w ro K d f t1))), (12, .int (nI ((7 * t1) + (nx t1 d)))), (11, .int (nI (mv w K ro f t1 d))), (0, .ref (ad 71)), (1, .int (-6)), (2, .int (x3)), (3, .int (nI (a1 + fC w ro K d f t1))), (7, .long (lN (fM w ro K d f 6)))] := by rw [hen]; exact hl
                                  have hl : lv_has ls 14 [(6, .int (bI (nx t1 d = K))), (10, .int (nI (t1 + 1))), (5, .int (fr6 t1)), (4, .int (nI (nx t1 d))), (9, .int (nI 1)), (13, .int (nI (rtN w ro K d f t1))), (12, .int (nI ((7 * t1) + (nx t1 d)))), (11, .int (nI (mv w K ro f t1 d))), (0, .ref (ad 71)), (1, .int (-6)), (2, .int (x3)), (3, .int (nI (a1 + fC w ro K d f t1))), (7, .long (lN (fM w ro K d f 6)))] := by rw [show fr6 t1 = nI t1 from if_neg (by omega)]; exact hl
                                  refine lv_goto (tgt := 38) hx hb dX6_layWay_378 (by decide) ?_
                                  exact ih_38 (s1 + 1) (nx t1 d) t1 x3 (a1 + fC w ro K d f t1) (up2 (up2 I1 81 s1 (nI t1)) 71 12 (nI (s1 + 1))) (up2 L1 71 13 ((L1 71 13) * (lN (mv w K ro f t1 d)))) (by omega) hfj hnj hq3 _ _ hW _ (lv_sub hl [8, 9, 10, 11, 3, 2, 0] rfl)
                                ·
                                  refine q_ic 1 hx hb dX6_layWay_371 (by decide) ?_
                                  refine lv_goto (tgt := 376) hx hb dX6_layWay_372 (by decide) ?_
                                  refine lv_istore (lv' := [(6, .int (nI 1)), (10, .int (nI (t1 + 1))), (5, .int (nI (t1))), (4, .int (nI (nx t1 d))), (9, .int (nI 1)), (13, .int (nI (rtN w ro K d f t1))), (12, .int (nI ((7 * t1) + (nx t1 d)))), (11, .int (nI (mv w K ro f t1 d))), (0, .ref (ad 71)), (1, .int (-6)), (2, .int (x3)), (3, .int (nI (a1 + fC w ro K d f t1))), (7, .long (lN (fM w ro K d f 6)))]) hx hb dX6_layWay_376 hl (by decide) rfl (fun ls hl => ?_)
                                  have hnj := NJ_s hw hNJ hdK (show t1 < 6 by omega) hp1
                                  have hbs := byM_s (w := w) (r := ro) hs18 hdK (show t1 < 6 by omega) hno hok
                                  have hfj := FJ_s (hbs ▸ hF) hs18
                                  have hq3 : a1 + fC w ro K d f t1 + rkN w ro K (nx t1 d) t1 (byM w ro K (19 - (s1 + 1)) (nx t1 d) t1) = rkN w ro K 0 6 (wayM w ro K) ∧ 0 < Cx' w K ro (K - nx t1 d) t1 := ⟨by rw [← hGI.1, hbs, Nat.add_assoc]; rfl, by have h8 := (okM_iff.mp hok).1; rw [rt_p hp1] at h8; exact h8⟩
                                  have hen : bI (nx t1 d = K) = nI 1 := bI_t (by omega)
                                  have hl : lv_has ls 14 [(6, .int (bI (nx t1 d = K))), (10, .int (nI (t1 + 1))), (5, .int (nI (t1))), (4, .int (nI (nx t1 d))), (9, .int (nI 1)), (13, .int (nI (rtN w ro K d f t1))), (12, .int (nI ((7 * t1) + (nx t1 d)))), (11, .int (nI (mv w K ro f t1 d))), (0, .ref (ad 71)), (1, .int (-6)), (2, .int (x3)), (3, .int (nI (a1 + fC w ro K d f t1))), (7, .long (lN (fM w ro K d f 6)))] := by rw [hen]; exact hl
                                  have hl : lv_has ls 14 [(6, .int (bI (nx t1 d = K))), (10, .int (nI (t1 + 1))), (5, .int (fr6 t1)), (4, .int (nI (nx t1 d))), (9, .int (nI 1)), (13, .int (nI (rtN w ro K d f t1))), (12, .int (nI ((7 * t1) + (nx t1 d)))), (11, .int (nI (mv w K ro f t1 d))), (0, .ref (ad 71)), (1, .int (-6)), (2, .int (x3)), (3, .int (nI (a1 + fC w ro K d f t1))), (7, .long (lN (fM w ro K d f 6)))] := by rw [show fr6 t1 = nI t1 from if_neg (by omega)]; exact hl
                                  refine lv_goto (tgt := 38) hx hb dX6_layWay_378 (by decide) ?_
                                  exact ih_38 (s1 + 1) (nx t1 d) t1 x3 (a1 + fC w ro K d f t1) (up2 (up2 I1 81 s1 (nI t1)) 71 12 (nI (s1 + 1))) (up2 L1 71 13 ((L1 71 13) * (lN (mv w K ro f t1 d)))) (by omega) hfj hnj hq3 _ _ hW _ (lv_sub hl [8, 9, 10, 11, 3, 2, 0] rfl)
                            ·
                              refine lv_iload hx hb dX6_layWay_160 (lv_at hl 3 rfl) ?_
                              refine q_ine (tgt := 353) hx hb dX6_layWay_162 (by decide) (by first | omega | exact Nat.lt_of_le_of_lt (hw3 _) (by decide)) (fun c_162 => ?_) (fun c_162 => absurd c_162 (by decide))
                              refine lv_iload hx hb dX6_layWay_353 (lv_at hl 1 rfl) ?_
                              refine q_ic 4 hx hb dX6_layWay_355 (by decide) ?_
                              refine q_cge (tgt := 375) hx hb dX6_layWay_356 (by decide) (by first | omega | exact Nat.lt_of_le_of_lt (hw3 _) (by decide)) (by first | omega | exact Nat.lt_of_le_of_lt (hw3 _) (by decide)) (fun c_356 => ?_) (fun c_356 => ?_)
                              ·
                                refine q_ic 0 hx hb dX6_layWay_375 (by decide) ?_
                                refine lv_istore (lv' := [(6, .int (nI 0)), (10, .int (nI (t1 + 1))), (5, .int (nI (t1))), (4, .int (nI (nx t1 d))), (9, .int (nI 1)), (13, .int (nI (rtN w ro K d f t1))), (12, .int (nI ((7 * t1) + (nx t1 d)))), (11, .int (nI (mv w K ro f t1 d))), (0, .ref (ad 71)), (1, .int (-6)), (2, .int (x3)), (3, .int (nI (a1 + fC w ro K d f t1))), (7, .long (lN (fM w ro K d f 6)))]) hx hb dX6_layWay_376 hl (by decide) rfl (fun ls hl => ?_)
                                have hnj := NJ_s hw hNJ hdK (show t1 < 6 by omega) hp1
                                have hbs := byM_s (w := w) (r := ro) hs18 hdK (show t1 < 6 by omega) hno hok
                                have hfj := FJ_s (hbs ▸ hF) hs18
                                have hq3 : a1 + fC w ro K d f t1 + rkN w ro K (nx t1 d) t1 (byM w ro K (19 - (s1 + 1)) (nx t1 d) t1) = rkN w ro K 0 6 (wayM w ro K) ∧ 0 < Cx' w K ro (K - nx t1 d) t1 := ⟨by rw [← hGI.1, hbs, Nat.add_assoc]; rfl, by have h8 := (okM_iff.mp hok).1; rw [rt_p hp1] at h8; exact h8⟩
                                have hen : bI (nx t1 d = K) = nI 0 := bI_f (by unfold nx; rw [if_neg (by omega)]; omega)
                                have hl : lv_has ls 14 [(6, .int (bI (nx t1 d = K))), (10, .int (nI (t1 + 1))), (5, .int (nI (t1))), (4, .int (nI (nx t1 d))), (9, .int (nI 1)), (13, .int (nI (rtN w ro K d f t1))), (12, .int (nI ((7 * t1) + (nx t1 d)))), (11, .int (nI (mv w K ro f t1 d))), (0, .ref (ad 71)), (1, .int (-6)), (2, .int (x3)), (3, .int (nI (a1 + fC w ro K d f t1))), (7, .long (lN (fM w ro K d f 6)))] := by rw [hen]; exact hl
                                have hl : lv_has ls 14 [(6, .int (bI (nx t1 d = K))), (10, .int (nI (t1 + 1))), (5, .int (fr6 t1)), (4, .int (nI (nx t1 d))), (9, .int (nI 1)), (13, .int (nI (rtN w ro K d f t1))), (12, .int (nI ((7 * t1) + (nx t1 d)))), (11, .int (nI (mv w K ro f t1 d))), (0, .ref (ad 71)), (1, .int (-6)), (2, .int (x3)), (3, .int (nI (a1 + fC w ro K d f t1))), (7, .long (lN (fM w ro K d f 6)))] := by rw [show fr6 t1 = nI t1 from if_neg (by omega)]; exact hl
                                refine lv_goto (tgt := 38) hx hb dX6_layWay_378 (by decide) ?_
                                exact ih_38 (s1 + 1) (nx t1 d) t1 x3 (a1 + fC w ro K d f t1) (up2 (up2 I1 81 s1 (nI t1)) 71 12 (nI (s1 + 1))) (up2 L1 71 13 ((L1 71 13) * (lN (mv w K ro f t1 d)))) (by omega) hfj hnj hq3 _ _ hW _ (lv_sub hl [8, 9, 10, 11, 3, 2, 0] rfl)
                              ·
                                refine lv_iload hx hb dX6_layWay_359 (lv_at hl 2 rfl) ?_
                                refine lv_aload_n hx hb dX6_layWay_361 rfl (lv_at hl 7 rfl) ?_
                                refine g_6_0 (x := 71) (y := 72) hC hW (by omega) kd_71 gw_483 (hlk 71 0 72 (by omega) rfl) dX6_layWay_362 ?_
                                refine q_bp 58 hx hb dX6_layWay_365 (by decide) ?_
                                refine q_iald (x := 72) (i := 58) hC hW (by omega) kd_72 (by omega) dX6_layWay_367 ?_
                                refine q_top (v2 := .int (nI (K))) (congrArg _ (by rw [up2_ne (by decide), up2_ne (by decide)]; exact hN1.2.1)) ?_
                                refine q_cne (tgt := 375) hx hb dX6_layWay_368 (by decide) (by first | omega | exact Nat.lt_of_le_of_lt (hw3 _) (by decide)) (by first | omega | exact Nat.lt_of_le_of_lt (hw3 _) (by decide)) (fun c_368 => ?_) (fun c_368 => ?_)
                                ·
                                  refine q_ic 0 hx hb dX6_layWay_375 (by decide) ?_
                                  refine lv_istore (lv' := [(6, .int (nI 0)), (10, .int (nI (t1 + 1))), (5, .int (nI (t1))), (4, .int (nI (nx t1 d))), (9, .int (nI 1)), (13, .int (nI (rtN w ro K d f t1))), (12, .int (nI ((7 * t1) + (nx t1 d)))), (11, .int (nI (mv w K ro f t1 d))), (0, .ref (ad 71)), (1, .int (-6)), (2, .int (x3)), (3, .int (nI (a1 + fC w ro K d f t1))), (7, .long (lN (fM w ro K d f 6)))]) hx hb dX6_layWay_376 hl (by decide) rfl (fun ls hl => ?_)
                                  have hnj := NJ_s hw hNJ hdK (show t1 < 6 by omega) hp1
                                  have hbs := byM_s (w := w) (r := ro) hs18 hdK (show t1 < 6 by omega) hno hok
                                  have hfj := FJ_s (hbs ▸ hF) hs18
                                  have hq3 : a1 + fC w ro K d f t1 + rkN w ro K (nx t1 d) t1 (byM w ro K (19 - (s1 + 1)) (nx t1 d) t1) = rkN w ro K 0 6 (wayM w ro K) ∧ 0 < Cx' w K ro (K - nx t1 d) t1 := ⟨by rw [← hGI.1, hbs, Nat.add_assoc]; rfl, by have h8 := (okM_iff.mp hok).1; rw [rt_p hp1] at h8; exact h8⟩
                                  have hen : bI (nx t1 d = K) = nI 0 := bI_f (by omega)
                                  have hl : lv_has ls 14 [(6, .int (bI (nx t1 d = K))), (10, .int (nI (t1 + 1))), (5, .int (nI (t1))), (4, .int (nI (nx t1 d))), (9, .int (nI 1)), (13, .int (nI (rtN w ro K d f t1))), (12, .int (nI ((7 * t1) + (nx t1 d)))), (11, .int (nI (mv w K ro f t1 d))), (0, .ref (ad 71)), (1, .int (-6)), (2, .int (x3)), (3, .int (nI (a1 + fC w ro K d f t1))), (7, .long (lN (fM w ro K d f 6)))] := by rw [hen]; exact hl
                                  have hl : lv_has ls 14 [(6, .int (bI (nx t1 d = K))), (10, .int (nI (t1 + 1))), (5, .int (fr6 t1)), (4, .int (nI (nx t1 d))), (9, .int (nI 1)), (13, .int (nI (rtN w ro K d f t1))), (12, .int (nI ((7 * t1) + (nx t1 d)))), (11, .int (nI (mv w K ro f t1 d))), (0, .ref (ad 71)), (1, .int (-6)), (2, .int (x3)), (3, .int (nI (a1 + fC w ro K d f t1))), (7, .long (lN (fM w ro K d f 6)))] := by rw [show fr6 t1 = nI t1 from if_neg (by omega)]; exact hl
                                  refine lv_goto (tgt := 38) hx hb dX6_layWay_378 (by decide) ?_
                                  exact ih_38 (s1 + 1) (nx t1 d) t1 x3 (a1 + fC w ro K d f t1) (up2 (up2 I1 81 s1 (nI t1)) 71 12 (nI (s1 + 1))) (up2 L1 71 13 ((L1 71 13) * (lN (mv w K ro f t1 d)))) (by omega) hfj hnj hq3 _ _ hW _ (lv_sub hl [8, 9, 10, 11, 3, 2, 0] rfl)
                                ·
                                  refine q_ic 1 hx hb dX6_layWay_371 (by decide) ?_
                                  refine lv_goto (tgt := 376) hx hb dX6_layWay_372 (by decide) ?_
                                  refine lv_istore (lv' := [(6, .int (nI 1)), (10, .int (nI (t1 + 1))), (5, .int (nI (t1))), (4, .int (nI (nx t1 d))), (9, .int (nI 1)), (13, .int (nI (rtN w ro K d f t1))), (12, .int (nI ((7 * t1) + (nx t1 d)))), (11, .int (nI (mv w K ro f t1 d))), (0, .ref (ad 71)), (1, .int (-6)), (2, .int (x3)), (3, .int (nI (a1 + fC w ro K d f t1))), (7, .long (lN (fM w ro K d f 6)))]) hx hb dX6_layWay_376 hl (by decide) rfl (fun ls hl => ?_)
                                  have hnj := NJ_s hw hNJ hdK (show t1 < 6 by omega) hp1
                                  have hbs := byM_s (w := w) (r := ro) hs18 hdK (show t1 < 6 by omega) hno hok
                                  have hfj := FJ_s (hbs ▸ hF) hs18
                                  have hq3 : a1 + fC w ro K d f t1 + rkN w ro K (nx t1 d) t1 (byM w ro K (19 - (s1 + 1)) (nx t1 d) t1) = rkN w ro K 0 6 (wayM w ro K) ∧ 0 < Cx' w K ro (K - nx t1 d) t1 := ⟨by rw [← hGI.1, hbs, Nat.add_assoc]; rfl, by have h8 := (okM_iff.mp hok).1; rw [rt_p hp1] at h8; exact h8⟩
                                  have hen : bI (nx t1 d = K) = nI 1 := bI_t (by omega)
                                  have hl : lv_has ls 14 [(6, .int (bI (nx t1 d = K))), (10, .int (nI (t1 + 1))), (5, .int (nI (t1))), (4, .int (nI (nx t1 d))), (9, .int (nI 1)), (13, .int (nI (rtN w ro K d f t1))), (12, .int (nI ((7 * t1) + (nx t1 d)))), (11, .int (nI (mv w K ro f t1 d))), (0, .ref (ad 71)), (1, .int (-6)), (2, .int (x3)), (3, .int (nI (a1 + fC w ro K d f t1))), (7, .long (lN (fM w ro K d f 6)))] := by rw [hen]; exact hl
                                  have hl : lv_has ls 14 [(6, .int (bI (nx t1 d = K))), (10, .int (nI (t1 + 1))), (5, .int (fr6 t1)), (4, .int (nI (nx t1 d))), (9, .int (nI 1)), (13, .int (nI (rtN w ro K d f t1))), (12, .int (nI ((7 * t1) + (nx t1 d)))), (11, .int (nI (mv w K ro f t1 d))), (0, .ref (ad 71)), (1, .int (-6)), (2, .int (x3)), (3, .int (nI (a1 + fC w ro K d f t1))), (7, .long (lN (fM w ro K d f 6)))] := by rw [show fr6 t1 = nI t1 from if_neg (by omega)]; exact hl
                                  refine lv_goto (tgt := 38) hx hb dX6_layWay_378 (by decide) ?_
                                  exact ih_38 (s1 + 1) (nx t1 d) t1 x3 (a1 + fC w ro K d f t1) (up2 (up2 I1 81 s1 (nI t1)) 71 12 (nI (s1 + 1))) (up2 L1 71 13 ((L1 71 13) * (lN (mv w K ro f t1 d)))) (by omega) hfj hnj hq3 _ _ hW _ (lv_sub hl [8, 9, 10, 11, 3, 2, 0] rfl)
                  exact lp_153 (6 + 1) 0 x2 (by omega) (by omega) (fun i hi => absurd hi (by omega)) _ _ hW _ (lv_sub hl [2, 3, 4, 5, 6, 7, 8, 1, 0] rfl)
                ·
                  refine lv_aload_n hx hb dX6_layWay_56 rfl (lv_at hl 0 rfl) ?_
                  refine lv_iload hx hb dX6_layWay_57 (lv_at hl 5 rfl) ?_
                  refine lv_if_ge (tgt := 72) hx hb dX6_layWay_59 (by decide) (fun c_59 => ?_) (fun c_59 => absurd (Int32.not_lt.mp (nI_pos (by omega))) c_59)
                  refine lv_aload_n hx hb dX6_layWay_72 rfl (lv_at hl 0 rfl) ?_
                  refine lv_iload hx hb dX6_layWay_73 (lv_at hl 5 rfl) ?_
                  refine lv_iload hx hb dX6_layWay_75 (lv_at hl 7 rfl) ?_
                  refine q_kI0 (q_rV (As := [.int (nI (f)), .int (nI (t1))]) (rest := [.ref (ad 71)]) (x := 71) hC hW mw_X6_step gw_586 (k_step l G n ad H.size I1 L1 R _ _ (by omega) (by omega) w K ro hn hlk hN1) (by omega) (ct_o6 kd_71) rfl ⟨rfl, rfl⟩ ⟨Nat.le_of_ble_eq_true rfl, Nat.le_of_ble_eq_true rfl⟩ ⟨(Nat.le_of_ble_eq_true rfl), (Nat.le_of_ble_eq_true rfl)⟩ hl.1 rfl rfl (Nat.le_of_ble_eq_true rfl) dX6_layWay_77) hW (fun r_77 H locs hp hW => ?_)
                  subst hp
                  refine lv_iload hx hb dX6_layWay_80 (lv_at hl 7 rfl) ?_
                  refine lv_iload hx hb dX6_layWay_82 (lv_at hl 4 rfl) ?_
                  refine q_kI0 (q_rV (As := [.int (nI (w (f * 6 + t1))), .int (nI (t1)), .int (nI (d))]) (rest := []) (x := 71) hC hW mw_X6_going gw_590 (k_going l G n ad H.size I1 L1 R _ _ _ (hw3 _) (by omega) (by omega) w K ro hn hlk hN1) (by omega) (ct_o6 kd_71) rfl ⟨rfl, rfl⟩ ⟨Nat.le_of_ble_eq_true rfl, Nat.le_of_ble_eq_true rfl⟩ ⟨(Nat.le_of_ble_eq_true rfl), (Nat.le_of_ble_eq_true rfl)⟩ hl.1 rfl rfl (Nat.le_of_ble_eq_true rfl) dX6_layWay_84) hW (fun r_84 H locs hp hW => ?_)
                  subst hp
                  refine q_top (v2 := .int (nI (mv w K ro f t1 d))) rfl ?_
                  have hm9 := mv_le hw K ro f t1 d
                  refine q_i2l hx hb dX6_layWay_87 (by first | omega | exact Nat.lt_of_le_of_lt (hw3 _) (by decide)) ?_
                  refine lv_lstore (lv' := [(10, .long (lN (mv w K ro f t1 d))), (0, .ref (ad 71)), (1, .int (-6)), (2, .int (x2)), (3, .int (nI (a1))), (4, .int (nI (d))), (5, .int (nI (f))), (7, .long (lN (fM w ro K d f t1))), (9, .int (nI (t1)))]) hx hb dX6_layWay_88 hl (by decide) rfl (fun ls hl => ?_)
                  refine lv_lload hx hb dX6_layWay_90 (lv_at hl 0 rfl) ?_
                  refine q_lc 0 hx hb dX6_layWay_92 (by decide) ?_
                  refine q_lcmp hx hb dX6_layWay_93 ?_
                  refine q_lle (tgt := 121) hx hb dX6_layWay_94 (by decide) (by first | decide | omega | assumption) (by first | decide | omega | assumption) (fun c_94 => ?_) (fun c_94 => ?_)
                  ·
                    have hz1 : mv w K ro f t1 d = 0 := by omega
                    refine q_lc 0 hx hb dX6_layWay_121 (by decide) ?_
                    refine lv_lstore (lv' := [(12, .long (lN 0)), (10, .long (lN (mv w K ro f t1 d))), (0, .ref (ad 71)), (1, .int (-6)), (2, .int (x2)), (3, .int (nI (a1))), (4, .int (nI (d))), (5, .int (nI (f))), (7, .long (lN (fM w ro K d f t1))), (9, .int (nI (t1)))]) hx hb dX6_layWay_122 hl (by decide) rfl (fun ls hl => ?_)
                    refine lv_lload hx hb dX6_layWay_124 (lv_at hl 0 rfl) ?_
                    refine lv_lload hx hb dX6_layWay_126 (lv_at hl 8 rfl) ?_
                    refine q_lcmp hx hb dX6_layWay_128 ?_
                    refine q_lle (tgt := 137) hx hb dX6_layWay_129 (by decide) (by decide) (Nat.lt_of_le_of_lt (fM_b hw (r := ro) K d f t1 hk6) (by decide)) (fun c_129 => ?_) (fun c_129 => ?_)
                    ·
                      refine lv_lload hx hb dX6_layWay_137 (lv_at hl 8 rfl) ?_
                      refine q_top (v2 := .long (lN (fM w ro K d f (t1 + 1)))) (congrArg (fun z => Value.long (lN z)) (show fM w ro K d f t1 = fM w ro K d f (t1 + 1) from by have h9 := fM_n (w := w) (r := ro) (K := K) (d := d) (f := f) (i := t1) hz1; omega)) ?_
                      refine lv_lstore (lv' := [(7, .long (lN (fM w ro K d f (t1 + 1)))), (12, .long (lN 0)), (10, .long (lN (mv w K ro f t1 d))), (0, .ref (ad 71)), (1, .int (-6)), (2, .int (x2)), (3, .int (nI (a1))), (4, .int (nI (d))), (5, .int (nI (f))), (9, .int (nI (t1)))]) hx hb dX6_layWay_139 hl (by decide) rfl (fun ls hl => ?_)
                      refine q_iinc (z2 := t1 + 1) (lv' := [(9, .int (nI (t1 + 1))), (7, .long (lN (fM w ro K d f (t1 + 1)))), (12, .long (lN 0)), (10, .long (lN (mv w K ro f t1 d))), (0, .ref (ad 71)), (1, .int (-6)), (2, .int (x2)), (3, .int (nI (a1))), (4, .int (nI (d))), (5, .int (nI (f)))]) hx hb dX6_layWay_141 hl (k := 9) rfl (inc_up _ 1 (by decide)) (by decide) rfl (fun ls hl => ?_)
                      refine lv_goto (tgt := 49) hx hb dX6_layWay_144 (by decide) ?_
                      exact ih_49 (t1 + 1) (by omega) (by omega) _ _ hW _ (lv_sub hl [4, 5, 6, 7, 8, 9, 1, 0] rfl)
                    ·
                      refine lv_lload hx hb dX6_layWay_132 (lv_at hl 0 rfl) ?_
                      refine lv_goto (tgt := 139) hx hb dX6_layWay_134 (by decide) ?_
                      refine q_top (v2 := .long (lN (fM w ro K d f (t1 + 1)))) (congrArg (fun z => Value.long (lN z)) (show 0 = fM w ro K d f (t1 + 1) from by have h9 := fM_n (w := w) (r := ro) (K := K) (d := d) (f := f) (i := t1) hz1; omega)) ?_
                      refine lv_lstore (lv' := [(7, .long (lN (fM w ro K d f (t1 + 1)))), (12, .long (lN 0)), (10, .long (lN (mv w K ro f t1 d))), (0, .ref (ad 71)), (1, .int (-6)), (2, .int (x2)), (3, .int (nI (a1))), (4, .int (nI (d))), (5, .int (nI (f))), (9, .int (nI (t1)))]) hx hb dX6_layWay_139 hl (by decide) rfl (fun ls hl => ?_)
                      refine q_iinc (z2 := t1 + 1) (lv' := [(9, .int (nI (t1 + 1))), (7, .long (lN (fM w ro K d f (t1 + 1)))), (12, .long (lN 0)), (10, .long (lN (mv w K ro f t1 d))), (0, .ref (ad 71)), (1, .int (-6)), (2, .int (x2)), (3, .int (nI (a1))), (4, .int (nI (d))), (5, .int (nI (f)))]) hx hb dX6_layWay_141 hl (k := 9) rfl (inc_up _ 1 (by decide)) (by decide) rfl (fun ls hl => ?_)
                      refine lv_goto (tgt := 49) hx hb dX6_layWay_144 (by decide) ?_
                      exact ih_49 (t1 + 1) (by omega) (by omega) _ _ hW _ (lv_sub hl [4, 5, 6, 7, 8, 9, 1, 0] rfl)
                  ·
                    have hp1 : 0 < mv w K ro f t1 d := by omega
                    have hnx : nx t1 d ≤ K := nx_K2 hp1 (by omega)
                    have hmb := mM_lt hw (r := ro) K d f t1 hk6
                    refine lv_lload hx hb dX6_layWay_97 (lv_at hl 0 rfl) ?_
                    refine lv_aload_n hx hb dX6_layWay_99 rfl (lv_at hl 1 rfl) ?_
                    refine g_6_10 (x := 71) (y := 80) hC hW (by omega) kd_71 gw_493 (hlk 71 10 80 (by omega) rfl) dX6_layWay_100 ?_
                    refine q_bp 7 hx hb dX6_layWay_103 (by decide) ?_
                    refine lv_iload hx hb dX6_layWay_105 (lv_at hl 8 rfl) ?_
                    refine q_imul hx hb dX6_layWay_107 ?_
                    refine lv_iload hx hb dX6_layWay_108 (lv_at hl 8 rfl) ?_
                    refine lv_iload hx hb dX6_layWay_110 (lv_at hl 5 rfl) ?_
                    refine q_kI0 (q_rS (As := [.int (nI (t1)), .int (nI (d))]) (rest := [.int (nI (7 * t1)), .ref (ad 80), .long (lN (mv w K ro f t1 d))]) hC hW mw_X6_toldThen gw_598 (k_toldThen l G n ad H.size I1 L1 R _ _ (by omega) (by omega)) ⟨rfl, rfl⟩ ⟨Nat.le_of_ble_eq_true rfl, Nat.le_of_ble_eq_true rfl⟩ ⟨(Nat.le_of_ble_eq_true rfl), (Nat.le_of_ble_eq_true rfl)⟩ hl.1 rfl rfl (Nat.le_of_ble_eq_true rfl) dX6_layWay_112) hW (fun r_112 H locs hp hW => ?_)
                    subst hp
                    refine q_iadd hx hb dX6_layWay_115 ?_
                    refine q_lald (x := 80) (i := (7 * t1) + (nx t1 d)) hC hW (by omega) kd_80 (by omega) dX6_layWay_116 ?_
                    refine q_top (v2 := .long (lN (Mx' w K ro (K - (nx t1 d)) t1))) (congrArg _ (hB1 (nx t1 d) t1 (by omega) hnx (by omega)).2.1) ?_
                    refine q_lmul hx hb dX6_layWay_117 ?_
                    refine lv_goto (tgt := 122) hx hb dX6_layWay_118 (by decide) ?_
                    refine lv_lstore (lv' := [(12, .long (lN ((mv w K ro f t1 d) * (Mx' w K ro (K - (nx t1 d)) t1)))), (10, .long (lN (mv w K ro f t1 d))), (0, .ref (ad 71)), (1, .int (-6)), (2, .int (x2)), (3, .int (nI (a1))), (4, .int (nI (d))), (5, .int (nI (f))), (7, .long (lN (fM w ro K d f t1))), (9, .int (nI (t1)))]) hx hb dX6_layWay_122 hl (by decide) rfl (fun ls hl => ?_)
                    refine lv_lload hx hb dX6_layWay_124 (lv_at hl 0 rfl) ?_
                    refine lv_lload hx hb dX6_layWay_126 (lv_at hl 8 rfl) ?_
                    refine q_lcmp hx hb dX6_layWay_128 ?_
                    refine q_lle (tgt := 137) hx hb dX6_layWay_129 (by decide) hmb (Nat.lt_of_le_of_lt (fM_b hw (r := ro) K d f t1 hk6) (by decide)) (fun c_129 => ?_) (fun c_129 => ?_)
                    ·
                      refine lv_lload hx hb dX6_layWay_137 (lv_at hl 8 rfl) ?_
                      refine q_top (v2 := .long (lN (fM w ro K d f (t1 + 1)))) (congrArg (fun z => Value.long (lN z)) (show fM w ro K d f t1 = fM w ro K d f (t1 + 1) from by have h9 := fM_p (w := w) (r := ro) (K := K) (d := d) (f := f) (i := t1) hp1; omega)) ?_
                      refine lv_lstore (lv' := [(7, .long (lN (fM w ro K d f (t1 + 1)))), (12, .long (lN ((mv w K ro f t1 d) * (Mx' w K ro (K - (nx t1 d)) t1)))), (10, .long (lN (mv w K ro f t1 d))), (0, .ref (ad 71)), (1, .int (-6)), (2, .int (x2)), (3, .int (nI (a1))), (4, .int (nI (d))), (5, .int (nI (f))), (9, .int (nI (t1)))]) hx hb dX6_layWay_139 hl (by decide) rfl (fun ls hl => ?_)
                      refine q_iinc (z2 := t1 + 1) (lv' := [(9, .int (nI (t1 + 1))), (7, .long (lN (fM w ro K d f (t1 + 1)))), (12, .long (lN ((mv w K ro f t1 d) * (Mx' w K ro (K - (nx t1 d)) t1)))), (10, .long (lN (mv w K ro f t1 d))), (0, .ref (ad 71)), (1, .int (-6)), (2, .int (x2)), (3, .int (nI (a1))), (4, .int (nI (d))), (5, .int (nI (f)))]) hx hb dX6_layWay_141 hl (k := 9) rfl (inc_up _ 1 (by decide)) (by decide) rfl (fun ls hl => ?_)
                      refine lv_goto (tgt := 49) hx hb dX6_layWay_144 (by decide) ?_
                      exact ih_49 (t1 + 1) (by omega) (by omega) _ _ hW _ (lv_sub hl [4, 5, 6, 7, 8, 9, 1, 0] rfl)
                    ·
                      refine lv_lload hx hb dX6_layWay_132 (lv_at hl 0 rfl) ?_
                      refine lv_goto (tgt := 139) hx hb dX6_layWay_134 (by decide) ?_
                      refine q_top (v2 := .long (lN (fM w ro K d f (t1 + 1)))) (congrArg (fun z => Value.long (lN z)) (show (mv w K ro f t1 d) * (Mx' w K ro (K - (nx t1 d)) t1) = fM w ro K d f (t1 + 1) from by have h9 := fM_p (w := w) (r := ro) (K := K) (d := d) (f := f) (i := t1) hp1; omega)) ?_
                      refine lv_lstore (lv' := [(7, .long (lN (fM w ro K d f (t1 + 1)))), (12, .long (lN ((mv w K ro f t1 d) * (Mx' w K ro (K - (nx t1 d)) t1)))), (10, .long (lN (mv w K ro f t1 d))), (0, .ref (ad 71)), (1, .int (-6)), (2, .int (x2)), (3, .int (nI (a1))), (4, .int (nI (d))), (5, .int (nI (f))), (9, .int (nI (t1)))]) hx hb dX6_layWay_139 hl (by decide) rfl (fun ls hl => ?_)
                      refine q_iinc (z2 := t1 + 1) (lv' := [(9, .int (nI (t1 + 1))), (7, .long (lN (fM w ro K d f (t1 + 1)))), (12, .long (lN ((mv w K ro f t1 d) * (Mx' w K ro (K - (nx t1 d)) t1)))), (10, .long (lN (mv w K ro f t1 d))), (0, .ref (ad 71)), (1, .int (-6)), (2, .int (x2)), (3, .int (nI (a1))), (4, .int (nI (d))), (5, .int (nI (f)))]) hx hb dX6_layWay_141 hl (k := 9) rfl (inc_up _ 1 (by decide)) (by decide) rfl (fun ls hl => ?_)
                      refine lv_goto (tgt := 49) hx hb dX6_layWay_144 (by decide) ?_
                      exact ih_49 (t1 + 1) (by omega) (by omega) _ _ hW _ (lv_sub hl [4, 5, 6, 7, 8, 9, 1, 0] rfl)
            exact lp_49 (6 + 1) 0 (by omega) (by omega) _ _ hW _ (lv_sub hl [2, 3, 4, 5, 6, 7, 1, 0] rfl)
        ·
          have e6 : f = 6 := by have h9 := hNJ.2.2; omega
          subst e6
          have hl : lv_has ls 14 [(0, .ref (ad 71)), (1, .int (-6)), (2, .int (x2)), (3, .int (nI (a1))), (4, .int (nI (d))), (5, .int (-6)), (6, .int (bI (d = K)))] := hl
          refine lv_iload hx hb dX6_layWay_38 (lv_at hl 6 rfl) ?_
          refine lv_if_ne (tgt := 381) hx hb dX6_layWay_40 (by decide) (fun c_40 => ?_) (fun c_40 => ?_)
          ·
            have hdK : d = K := bI_1 (p := d = K) c_40
            refine lv_iload_n hx hb dX6_layWay_381 rfl (lv_at hl 3 rfl) ?_
            exact q_iret1 hC hW hr hlk0 ⟨congrArg nI (by rw [← hGI.1, byM_e (show K ≤ d by omega)]; rfl), FJ_e hF (byM_e (by omega)) (by have h9 := hNJ.1; omega), hF.2.2.1, hF.2.2.2.1, hF.2.2.2.2⟩ dX6_layWay_382
          ·
            have hdn : ¬ d = K := bI_0 (p := d = K) c_40
            have hdK : d < K := by have h9 := hNJ.2.1; omega
            have hs18 : s1 < 18 := NJ_lt hNJ hk6 hdK
            have hMf : fM w ro K d 6 6 = Mx' w K ro (K - d) 6 := (Mx_f hw K d 6 hdK).symm
            have hCf : Cx' w K ro (K - d) 6 = fC w ro K d 6 6 := Cx_f hw K d 6 hdK
            have hCb := Cx_b hw (r := ro) K (K - d) 6 (by omega)
            refine q_lc 0 hx hb dX6_layWay_43 (by decide) ?_
            refine lv_lstore (lv' := [(7, .long (lN 0)), (0, .ref (ad 71)), (1, .int (-6)), (2, .int (x2)), (3, .int (nI (a1))), (4, .int (nI (d))), (5, .int (-6)), (6, .int (bI (d = K)))]) hx hb dX6_layWay_44 hl (by decide) rfl (fun ls hl => ?_)
            refine q_ic 0 hx hb dX6_layWay_46 (by decide) ?_
            refine lv_istore (lv' := [(9, .int (nI 0)), (7, .long (lN 0)), (0, .ref (ad 71)), (1, .int (-6)), (2, .int (x2)), (3, .int (nI (a1))), (4, .int (nI (d))), (5, .int (-6)), (6, .int (bI (d = K)))]) hx hb dX6_layWay_47 hl (by decide) rfl (fun ls hl => ?_)
            have lp_49 : ∀ (fu_49 : Nat) (t1 : Nat), 6 - t1 < fu_49 → (t1 ≤ 6) → ∀ (H : Heap) (locs : List Loc), Wd G n ad I1 L1 R (qA n ad s.heap.size) s.heap H locs s → ∀ ls : Array Slot, lv_has ls 14 [(0, .ref (ad 71)), (1, .int (-6)), (2, .int (x2)), (3, .int (nI (a1))), (4, .int (nI (d))), (5, .int (-6)), (7, .long (lN (fM w ro K d 6 t1))), (9, .int (nI (t1)))] → W p_ l e_ ({ frames := 2, cells := 0, slots := 0, locals := 72 } : Room) s m_ ([.ref (ad 71), .int (-6)] : List Value).toArray below meth c_ H locs 0 0 (MQ below (qI1 G (qA n ad s.heap.size) n ad R (fun z I1 L1 => z = nI (rkN w ro K 0 6 (wayM w ro K)) ∧ FoB (wayM w ro K) (prN w ro K 0 6 (wayM w ro K)) I1 L1 ∧ (∀ a, a ≠ 71 → a ≠ 81 → I1 a = I a) ∧ (∀ j, j ≠ 12 → I1 71 j = I 71 j) ∧ (∀ a, a ≠ 71 → L1 a = L a))) ([.ref (ad 71), .int (-6)] : List Value).toArray s 0 0 (qA n ad s.heap.size)) (F0 m_ 49 ls []) := by
              intro fu_49
              induction fu_49 with
              | zero =>
                intro t1 hm; exact absurd hm (Nat.not_lt_zero _)
              | succ fu_49 ih_49 =>
                intro t1 hm_49 ht6 H locs hW ls hl
                refine lv_iload hx hb dX6_layWay_49 (lv_at hl 7 rfl) ?_
                refine q_bp 6 hx hb dX6_layWay_51 (by decide) ?_
                refine q_cge (tgt := 147) hx hb dX6_layWay_53 (by decide) (by first | omega | exact Nat.lt_of_le_of_lt (hw3 _) (by decide)) (by first | omega | exact Nat.lt_of_le_of_lt (hw3 _) (by decide)) (fun c_53 => ?_) (fun c_53 => ?_)
                ·
                  have e6 : t1 = 6 := by omega
                  subst e6
                  refine q_ic 0 hx hb dX6_layWay_147 (by decide) ?_
                  refine lv_istore (lv' := [(9, .int (nI 0)), (0, .ref (ad 71)), (1, .int (-6)), (2, .int (x2)), (3, .int (nI (a1))), (4, .int (nI (d))), (5, .int (-6)), (7, .long (lN (fM w ro K d 6 6)))]) hx hb dX6_layWay_148 hl (by decide) rfl (fun ls hl => ?_)
                  refine q_ic 0 hx hb dX6_layWay_150 (by decide) ?_
                  refine lv_istore (lv' := [(10, .int (nI 0)), (9, .int (nI 0)), (0, .ref (ad 71)), (1, .int (-6)), (2, .int (x2)), (3, .int (nI (a1))), (4, .int (nI (d))), (5, .int (-6)), (7, .long (lN (fM w ro K d 6 6)))]) hx hb dX6_layWay_151 hl (by decide) rfl (fun ls hl => ?_)
                  have lp_153 : ∀ (fu_153 : Nat) (t1 : Nat) (x3 : Int32), 6 - t1 < fu_153 → (t1 ≤ 6) → (∀ i, i < t1 → ¬ okM w ro K d 6 i = true) → ∀ (H : Heap) (locs : List Loc), Wd G n ad I1 L1 R (qA n ad s.heap.size) s.heap H locs s → ∀ ls : Array Slot, lv_has ls 14 [(0, .ref (ad 71)), (1, .int (-6)), (2, .int (x3)), (3, .int (nI (a1 + fC w ro K d 6 t1))), (4, .int (nI (d))), (5, .int (-6)), (7, .long (lN (fM w ro K d 6 6))), (9, .int (nI 0)), (10, .int (nI (t1)))] → W p_ l e_ ({ frames := 2, cells := 0, slots := 0, locals := 72 } : Room) s m_ ([.ref (ad 71), .int (-6)] : List Value).toArray below meth c_ H locs 0 0 (MQ below (qI1 G (qA n ad s.heap.size) n ad R (fun z I1 L1 => z = nI (rkN w ro K 0 6 (wayM w ro K)) ∧ FoB (wayM w ro K) (prN w ro K 0 6 (wayM w ro K)) I1 L1 ∧ (∀ a, a ≠ 71 → a ≠ 81 → I1 a = I a) ∧ (∀ j, j ≠ 12 → I1 71 j = I 71 j) ∧ (∀ a, a ≠ 71 → L1 a = L a))) ([.ref (ad 71), .int (-6)] : List Value).toArray s 0 0 (qA n ad s.heap.size)) (F0 m_ 153 ls []) := by
                    intro fu_153
                    induction fu_153 with
                    | zero =>
                      intro t1 x3 hm; exact absurd hm (Nat.not_lt_zero _)
                    | succ fu_153 ih_153 =>
                      intro t1 x3 hm_153 ht6 hno H locs hW ls hl
                      refine lv_iload hx hb dX6_layWay_153 (lv_at hl 8 rfl) ?_
                      refine q_bp 6 hx hb dX6_layWay_155 (by decide) ?_
                      refine q_cge (tgt := 353) hx hb dX6_layWay_157 (by decide) (by first | omega | exact Nat.lt_of_le_of_lt (hw3 _) (by decide)) (by first | omega | exact Nat.lt_of_le_of_lt (hw3 _) (by decide)) (fun c_157 => absurd (chM_ok hw hdK hGI.2) (hno _ (by have h9 := chM_lt w ro K d 6; omega))) (fun c_157 => ?_)
                      refine lv_iload hx hb dX6_layWay_160 (lv_at hl 7 rfl) ?_
                      refine q_ine (tgt := 353) hx hb dX6_layWay_162 (by decide) (by first | omega | exact Nat.lt_of_le_of_lt (hw3 _) (by decide)) (fun c_162 => absurd c_162 (by decide)) (fun c_162 => ?_)
                      refine lv_aload_n hx hb dX6_layWay_165 rfl (lv_at hl 0 rfl) ?_
                      refine lv_iload hx hb dX6_layWay_166 (lv_at hl 5 rfl) ?_
                      refine lv_if_ge (tgt := 181) hx hb dX6_layWay_168 (by decide) (fun c_168 => absurd c_168 (by decide)) (fun c_168 => ?_)
                      refine lv_aload_n hx hb dX6_layWay_171 rfl (lv_at hl 0 rfl) ?_
                      refine g_6_0 (x := 71) (y := 72) hC hW (by omega) kd_71 gw_483 (hlk 71 0 72 (by omega) rfl) dX6_layWay_172 ?_
                      refine lv_iload hx hb dX6_layWay_175 (lv_at hl 8 rfl) ?_
                      refine q_iald (x := 72) (i := t1) hC hW (by omega) kd_72 (by omega) dX6_layWay_177 ?_
                      refine q_top (v2 := .int (nI (w (6 * 6 + t1)))) (congrArg _ ((hN1.1 _ (by omega)).trans (congrArg nI (rwt_b w (by omega))))) ?_
                      refine lv_goto (tgt := 189) hx hb dX6_layWay_178 (by decide) ?_
                      refine lv_iload hx hb dX6_layWay_189 (lv_at hl 8 rfl) ?_
                      refine lv_iload hx hb dX6_layWay_191 (lv_at hl 4 rfl) ?_
                      refine q_kI0 (q_rV (As := [.int (nI (w (6 * 6 + t1))), .int (nI (t1)), .int (nI (d))]) (rest := []) (x := 71) hC hW mw_X6_going gw_590 (k_going l G n ad H.size I1 L1 R _ _ _ (hw3 _) (by omega) (by omega) w K ro hn hlk hN1) (by omega) (ct_o6 kd_71) rfl ⟨rfl, rfl⟩ ⟨Nat.le_of_ble_eq_true rfl, Nat.le_of_ble_eq_true rfl⟩ ⟨(Nat.le_of_ble_eq_true rfl), (Nat.le_of_ble_eq_true rfl)⟩ hl.1 rfl rfl (Nat.le_of_ble_eq_true rfl) dX6_layWay_193) hW (fun r_193 H locs hp hW => ?_)
                      subst hp
                      refine q_top (v2 := .int (nI (mv w K ro 6 t1 d))) rfl ?_
                      have hm9 := mv_le hw K ro 6 t1 d
                      refine lv_istore (lv' := [(11, .int (nI (mv w K ro 6 t1 d))), (0, .ref (ad 71)), (1, .int (-6)), (2, .int (x3)), (3, .int (nI (a1 + fC w ro K d 6 t1))), (4, .int (nI (d))), (5, .int (-6)), (7, .long (lN (fM w ro K d 6 6))), (9, .int (nI 0)), (10, .int (nI (t1)))]) hx hb dX6_layWay_196 hl (by decide) rfl (fun ls hl => ?_)
                      refine q_bp 7 hx hb dX6_layWay_198 (by decide) ?_
                      refine lv_iload hx hb dX6_layWay_200 (lv_at hl 9 rfl) ?_
                      refine q_imul hx hb dX6_layWay_202 ?_
                      refine lv_iload hx hb dX6_layWay_203 (lv_at hl 9 rfl) ?_
                      refine lv_iload hx hb dX6_layWay_205 (lv_at hl 5 rfl) ?_
                      refine q_kI0 (q_rS (As := [.int (nI (t1)), .int (nI (d))]) (rest := [.int (nI (7 * t1))]) hC hW mw_X6_toldThen gw_598 (k_toldThen l G n ad H.size I1 L1 R _ _ (by omega) (by omega)) ⟨rfl, rfl⟩ ⟨Nat.le_of_ble_eq_true rfl, Nat.le_of_ble_eq_true rfl⟩ ⟨(Nat.le_of_ble_eq_true rfl), (Nat.le_of_ble_eq_true rfl)⟩ hl.1 rfl rfl (Nat.le_of_ble_eq_true rfl) dX6_layWay_207) hW (fun r_207 H locs hp hW => ?_)
                      subst hp
                      refine q_iadd hx hb dX6_layWay_210 ?_
                      refine lv_istore (lv' := [(12, .int (nI ((7 * t1) + (nx t1 d)))), (11, .int (nI (mv w K ro 6 t1 d))), (0, .ref (ad 71)), (1, .int (-6)), (2, .int (x3)), (3, .int (nI (a1 + fC w ro K d 6 t1))), (4, .int (nI (d))), (5, .int (-6)), (7, .long (lN (fM w ro K d 6 6))), (9, .int (nI 0)), (10, .int (nI (t1)))]) hx hb dX6_layWay_211 hl (by decide) rfl (fun ls hl => ?_)
                      refine lv_iload hx hb dX6_layWay_213 (lv_at hl 1 rfl) ?_
                      refine q_ile (tgt := 228) hx hb dX6_layWay_215 (by decide) (by first | omega | exact Nat.lt_of_le_of_lt (hw3 _) (by decide)) (fun c_215 => ?_) (fun c_215 => ?_)
                      ·
                        have hz1 : mv w K ro 6 t1 d = 0 := by omega
                        refine q_ic 0 hx hb dX6_layWay_228 (by decide) ?_
                        have hrb := rtN_b hw (r := ro) (K := K) (d := d) (f := 6) (t := t1) hk6
                        refine q_top (v2 := .int (nI (rtN w ro K d 6 t1))) (by rw [rt_n hz1]) ?_
                        refine lv_istore (lv' := [(13, .int (nI (rtN w ro K d 6 t1))), (12, .int (nI ((7 * t1) + (nx t1 d)))), (11, .int (nI (mv w K ro 6 t1 d))), (0, .ref (ad 71)), (1, .int (-6)), (2, .int (x3)), (3, .int (nI (a1 + fC w ro K d 6 t1))), (4, .int (nI (d))), (5, .int (-6)), (7, .long (lN (fM w ro K d 6 6))), (9, .int (nI 0)), (10, .int (nI (t1)))]) hx hb dX6_layWay_229 hl (by decide) rfl (fun ls hl => ?_)
                        refine lv_iload_n hx hb dX6_layWay_231 rfl (lv_at hl 4 rfl) ?_
                        refine lv_if_ge (tgt := 270) hx hb dX6_layWay_232 (by decide) (fun c_232 => absurd c_232 (by decide)) (fun c_232 => ?_)
                        refine lv_iload hx hb dX6_layWay_235 (lv_at hl 2 rfl) ?_
                        refine q_ile (tgt := 266) hx hb dX6_layWay_237 (by decide) (by first | omega | exact Nat.lt_of_le_of_lt (hw3 _) (by decide)) (fun c_237 => ?_) (fun c_237 => absurd c_237 (by omega))
                        refine q_ic 0 hx hb dX6_layWay_266 (by decide) ?_
                        refine lv_goto (tgt := 281) hx hb dX6_layWay_267 (by decide) ?_
                        have hnot : ¬ okM w ro K d 6 t1 = true := fun q9 => by have h8 := (okM_iff.mp q9).1; rw [rt_n hz1] at h8; omega
                        refine lv_istore (lv' := [(9, .int (nI 0)), (13, .int (nI (rtN w ro K d 6 t1))), (12, .int (nI ((7 * t1) + (nx t1 d)))), (11, .int (nI (mv w K ro 6 t1 d))), (0, .ref (ad 71)), (1, .int (-6)), (2, .int (x3)), (3, .int (nI (a1 + fC w ro K d 6 t1))), (4, .int (nI (d))), (5, .int (-6)), (7, .long (lN (fM w ro K d 6 6))), (10, .int (nI (t1)))]) hx hb dX6_layWay_281 hl (by decide) rfl (fun ls hl => ?_)
                        refine lv_iload hx hb dX6_layWay_283 (lv_at hl 0 rfl) ?_
                        refine q_ieq (tgt := 337) hx hb dX6_layWay_285 (by decide) (by first | omega | exact Nat.lt_of_le_of_lt (hw3 _) (by decide)) (fun c_285 => ?_) (fun c_285 => absurd c_285 (by decide))
                        refine lv_iload_n hx hb dX6_layWay_337 rfl (lv_at hl 6 rfl) ?_
                        refine lv_iload hx hb dX6_layWay_338 (lv_at hl 1 rfl) ?_
                        refine lv_isub hx hb dX6_layWay_340 ?_
                        refine lv_istore_n (lv' := [(2, .int (x3 - (nI (rtN w ro K d 6 t1)))), (9, .int (nI 0)), (13, .int (nI (rtN w ro K d 6 t1))), (12, .int (nI ((7 * t1) + (nx t1 d)))), (11, .int (nI (mv w K ro 6 t1 d))), (0, .ref (ad 71)), (1, .int (-6)), (3, .int (nI (a1 + fC w ro K d 6 t1))), (4, .int (nI (d))), (5, .int (-6)), (7, .long (lN (fM w ro K d 6 6))), (10, .int (nI (t1)))]) hx hb dX6_layWay_341 rfl hl (by decide) rfl (fun ls hl => ?_)
                        refine lv_iload_n hx hb dX6_layWay_342 rfl (lv_at hl 7 rfl) ?_
                        refine lv_iload hx hb dX6_layWay_343 (lv_at hl 2 rfl) ?_
                        refine q_iadd hx hb dX6_layWay_345 ?_
                        refine q_top (v2 := .int (nI (a1 + fC w ro K d 6 (t1 + 1)))) (by rw [fC_s, Nat.add_assoc]) ?_
                        refine lv_istore_n (lv' := [(3, .int (nI (a1 + fC w ro K d 6 (t1 + 1)))), (2, .int (x3 - (nI (rtN w ro K d 6 t1)))), (9, .int (nI 0)), (13, .int (nI (rtN w ro K d 6 t1))), (12, .int (nI ((7 * t1) + (nx t1 d)))), (11, .int (nI (mv w K ro 6 t1 d))), (0, .ref (ad 71)), (1, .int (-6)), (4, .int (nI (d))), (5, .int (-6)), (7, .long (lN (fM w ro K d 6 6))), (10, .int (nI (t1)))]) hx hb dX6_layWay_346 rfl hl (by decide) rfl (fun ls hl => ?_)
                        refine q_iinc (z2 := t1 + 1) (lv' := [(10, .int (nI (t1 + 1))), (3, .int (nI (a1 + fC w ro K d 6 (t1 + 1)))), (2, .int (x3 - (nI (rtN w ro K d 6 t1)))), (9, .int (nI 0)), (13, .int (nI (rtN w ro K d 6 t1))), (12, .int (nI ((7 * t1) + (nx t1 d)))), (11, .int (nI (mv w K ro 6 t1 d))), (0, .ref (ad 71)), (1, .int (-6)), (4, .int (nI (d))), (5, .int (-6)), (7, .long (lN (fM w ro K d 6 6)))]) hx hb dX6_layWay_347 hl (k := 11) rfl (inc_up _ 1 (by decide)) (by decide) rfl (fun ls hl => ?_)
                        refine lv_goto (tgt := 153) hx hb dX6_layWay_350 (by decide) ?_
                        exact ih_153 (t1 + 1) (x3 - (nI (rtN w ro K d 6 t1))) (by omega) (by omega) (fun i hi => by by_cases e9 : i = t1; (rw [e9]; exact hnot); exact hno i (by omega)) _ _ hW _ (lv_sub hl [7, 8, 2, 1, 9, 10, 11, 3, 0] rfl)
                      ·
                        have hp1 : 0 < mv w K ro 6 t1 d := by omega
                        have hnx : nx t1 d ≤ K := nx_K2 hp1 (by omega)
                        have hmb := mM_lt hw (r := ro) K d 6 t1 hk6
                        refine lv_aload_n hx hb dX6_layWay_218 rfl (lv_at hl 2 rfl) ?_
                        refine g_6_9 (x := 71) (y := 79) hC hW (by omega) kd_71 gw_492 (hlk 71 9 79 (by omega) rfl) dX6_layWay_219 ?_
                        refine lv_iload hx hb dX6_layWay_222 (lv_at hl 0 rfl) ?_
                        refine q_iald (x := 79) (i := (7 * t1) + (nx t1 d)) hC hW (by omega) kd_79 (by omega) dX6_layWay_224 ?_
                        refine q_top (v2 := .int (nI (Cx' w K ro (K - (nx t1 d)) t1))) (congrArg _ (hB1 (nx t1 d) t1 (by omega) hnx (by omega)).2.2) ?_
                        refine lv_goto (tgt := 229) hx hb dX6_layWay_225 (by decide) ?_
                        have hrb := rtN_b hw (r := ro) (K := K) (d := d) (f := 6) (t := t1) hk6
                        refine q_top (v2 := .int (nI (rtN w ro K d 6 t1))) (by rw [rt_p hp1]) ?_
                        refine lv_istore (lv' := [(13, .int (nI (rtN w ro K d 6 t1))), (12, .int (nI ((7 * t1) + (nx t1 d)))), (11, .int (nI (mv w K ro 6 t1 d))), (0, .ref (ad 71)), (1, .int (-6)), (2, .int (x3)), (3, .int (nI (a1 + fC w ro K d 6 t1))), (4, .int (nI (d))), (5, .int (-6)), (7, .long (lN (fM w ro K d 6 6))), (9, .int (nI 0)), (10, .int (nI (t1)))]) hx hb dX6_layWay_229 hl (by decide) rfl (fun ls hl => ?_)
                        refine lv_iload_n hx hb dX6_layWay_231 rfl (lv_at hl 4 rfl) ?_
                        refine lv_if_ge (tgt := 270) hx hb dX6_layWay_232 (by decide) (fun c_232 => absurd c_232 (by decide)) (fun c_232 => ?_)
                        refine lv_iload hx hb dX6_layWay_235 (lv_at hl 2 rfl) ?_
                        refine q_ile (tgt := 266) hx hb dX6_layWay_237 (by decide) (by first | omega | exact Nat.lt_of_le_of_lt (hw3 _) (by decide)) (fun c_237 => absurd c_237 (by omega)) (fun c_237 => ?_)
                        refine lv_iload hx hb dX6_layWay_240 (lv_at hl 2 rfl) ?_
                        refine q_i2l hx hb dX6_layWay_242 (by first | omega | exact Nat.lt_of_le_of_lt (hw3 _) (by decide)) ?_
                        refine lv_aload_n hx hb dX6_layWay_243 rfl (lv_at hl 3 rfl) ?_
                        refine g_6_10 (x := 71) (y := 80) hC hW (by omega) kd_71 gw_493 (hlk 71 10 80 (by omega) rfl) dX6_layWay_244 ?_
                        refine lv_iload hx hb dX6_layWay_247 (lv_at hl 1 rfl) ?_
                        refine q_lald (x := 80) (i := (7 * t1) + (nx t1 d)) hC hW (by omega) kd_80 (by omega) dX6_layWay_249 ?_
                        refine q_top (v2 := .long (lN (Mx' w K ro (K - (nx t1 d)) t1))) (congrArg _ (hB1 (nx t1 d) t1 (by omega) hnx (by omega)).2.1) ?_
                        refine q_lmul hx hb dX6_layWay_250 ?_
                        refine lv_lload hx hb dX6_layWay_251 (lv_at hl 9 rfl) ?_
                        refine q_lcmp hx hb dX6_layWay_253 ?_
                        refine q_lne (tgt := 266) hx hb dX6_layWay_254 (by decide) hmb (Nat.lt_of_le_of_lt (fM_b hw (r := ro) K d 6 6 hk6) (by decide)) (fun c_254 => ?_) (fun c_254 => ?_)
                        ·
                          refine q_ic 0 hx hb dX6_layWay_266 (by decide) ?_
                          refine lv_goto (tgt := 281) hx hb dX6_layWay_267 (by decide) ?_
                          have hnot : ¬ okM w ro K d 6 t1 = true := fun q9 => by have h9 := okM_iff.mp q9; have h8 := h9.1; first | omega | exact absurd (h9.2.trans hMf.symm) c_254
                          refine lv_istore (lv' := [(9, .int (nI 0)), (13, .int (nI (rtN w ro K d 6 t1))), (12, .int (nI ((7 * t1) + (nx t1 d)))), (11, .int (nI (mv w K ro 6 t1 d))), (0, .ref (ad 71)), (1, .int (-6)), (2, .int (x3)), (3, .int (nI (a1 + fC w ro K d 6 t1))), (4, .int (nI (d))), (5, .int (-6)), (7, .long (lN (fM w ro K d 6 6))), (10, .int (nI (t1)))]) hx hb dX6_layWay_281 hl (by decide) rfl (fun ls hl => ?_)
                          refine lv_iload hx hb dX6_layWay_283 (lv_at hl 0 rfl) ?_
                          refine q_ieq (tgt := 337) hx hb dX6_layWay_285 (by decide) (by first | omega | exact Nat.lt_of_le_of_lt (hw3 _) (by decide)) (fun c_285 => ?_) (fun c_285 => absurd c_285 (by decide))
                          refine lv_iload_n hx hb dX6_layWay_337 rfl (lv_at hl 6 rfl) ?_
                          refine lv_iload hx hb dX6_layWay_338 (lv_at hl 1 rfl) ?_
                          refine lv_isub hx hb dX6_layWay_340 ?_
                          refine lv_istore_n (lv' := [(2, .int (x3 - (nI (rtN w ro K d 6 t1)))), (9, .int (nI 0)), (13, .int (nI (rtN w ro K d 6 t1))), (12, .int (nI ((7 * t1) + (nx t1 d)))), (11, .int (nI (mv w K ro 6 t1 d))), (0, .ref (ad 71)), (1, .int (-6)), (3, .int (nI (a1 + fC w ro K d 6 t1))), (4, .int (nI (d))), (5, .int (-6)), (7, .long (lN (fM w ro K d 6 6))), (10, .int (nI (t1)))]) hx hb dX6_layWay_341 rfl hl (by decide) rfl (fun ls hl => ?_)
                          refine lv_iload_n hx hb dX6_layWay_342 rfl (lv_at hl 7 rfl) ?_
                          refine lv_iload hx hb dX6_layWay_343 (lv_at hl 2 rfl) ?_
                          refine q_iadd hx hb dX6_layWay_345 ?_
                          refine q_top (v2 := .int (nI (a1 + fC w ro K d 6 (t1 + 1)))) (by rw [fC_s, Nat.add_assoc]) ?_
                          refine lv_istore_n (lv' := [(3, .int (nI (a1 + fC w ro K d 6 (t1 + 1)))), (2, .int (x3 - (nI (rtN w ro K d 6 t1)))), (9, .int (nI 0)), (13, .int (nI (rtN w ro K d 6 t1))), (12, .int (nI ((7 * t1) + (nx t1 d)))), (11, .int (nI (mv w K ro 6 t1 d))), (0, .ref (ad 71)), (1, .int (-6)), (4, .int (nI (d))), (5, .int (-6)), (7, .long (lN (fM w ro K d 6 6))), (10, .int (nI (t1)))]) hx hb dX6_layWay_346 rfl hl (by decide) rfl (fun ls hl => ?_)
                          refine q_iinc (z2 := t1 + 1) (lv' := [(10, .int (nI (t1 + 1))), (3, .int (nI (a1 + fC w ro K d 6 (t1 + 1)))), (2, .int (x3 - (nI (rtN w ro K d 6 t1)))), (9, .int (nI 0)), (13, .int (nI (rtN w ro K d 6 t1))), (12, .int (nI ((7 * t1) + (nx t1 d)))), (11, .int (nI (mv w K ro 6 t1 d))), (0, .ref (ad 71)), (1, .int (-6)), (4, .int (nI (d))), (5, .int (-6)), (7, .long (lN (fM w ro K d 6 6)))]) hx hb dX6_layWay_347 hl (k := 11) rfl (inc_up _ 1 (by decide)) (by decide) rfl (fun ls hl => ?_)
                          refine lv_goto (tgt := 153) hx hb dX6_layWay_350 (by decide) ?_
                          exact ih_153 (t1 + 1) (x3 - (nI (rtN w ro K d 6 t1))) (by omega) (by omega) (fun i hi => by by_cases e9 : i = t1; (rw [e9]; exact hnot); exact hno i (by omega)) _ _ hW _ (lv_sub hl [7, 8, 2, 1, 9, 10, 11, 3, 0] rfl)
                        ·
                          refine lv_iload hx hb dX6_layWay_257 (lv_at hl 0 rfl) ?_
                          refine q_ile (tgt := 266) hx hb dX6_layWay_259 (by decide) (by first | omega | exact Nat.lt_of_le_of_lt (hw3 _) (by decide)) (fun c_259 => ?_) (fun c_259 => ?_)
                          ·
                            refine q_ic 0 hx hb dX6_layWay_266 (by decide) ?_
                            refine lv_goto (tgt := 281) hx hb dX6_layWay_267 (by decide) ?_
                            have hnot : ¬ okM w ro K d 6 t1 = true := fun q9 => by have h9 := okM_iff.mp q9; have h8 := h9.1; first | omega | exact absurd (h9.2.trans hMf.symm) c_254
                            refine lv_istore (lv' := [(9, .int (nI 0)), (13, .int (nI (rtN w ro K d 6 t1))), (12, .int (nI ((7 * t1) + (nx t1 d)))), (11, .int (nI (mv w K ro 6 t1 d))), (0, .ref (ad 71)), (1, .int (-6)), (2, .int (x3)), (3, .int (nI (a1 + fC w ro K d 6 t1))), (4, .int (nI (d))), (5, .int (-6)), (7, .long (lN (fM w ro K d 6 6))), (10, .int (nI (t1)))]) hx hb dX6_layWay_281 hl (by decide) rfl (fun ls hl => ?_)
                            refine lv_iload hx hb dX6_layWay_283 (lv_at hl 0 rfl) ?_
                            refine q_ieq (tgt := 337) hx hb dX6_layWay_285 (by decide) (by first | omega | exact Nat.lt_of_le_of_lt (hw3 _) (by decide)) (fun c_285 => ?_) (fun c_285 => absurd c_285 (by decide))
                            refine lv_iload_n hx hb dX6_layWay_337 rfl (lv_at hl 6 rfl) ?_
                            refine lv_iload hx hb dX6_layWay_338 (lv_at hl 1 rfl) ?_
                            refine lv_isub hx hb dX6_layWay_340 ?_
                            refine lv_istore_n (lv' := [(2, .int (x3 - (nI (rtN w ro K d 6 t1)))), (9, .int (nI 0)), (13, .int (nI (rtN w ro K d 6 t1))), (12, .int (nI ((7 * t1) + (nx t1 d)))), (11, .int (nI (mv w K ro 6 t1 d))), (0, .ref (ad 71)), (1, .int (-6)), (3, .int (nI (a1 + fC w ro K d 6 t1))), (4, .int (nI (d))), (5, .int (-6)), (7, .long (lN (fM w ro K d 6 6))), (10, .int (nI (t1)))]) hx hb dX6_layWay_341 rfl hl (by decide) rfl (fun ls hl => ?_)
                            refine lv_iload_n hx hb dX6_layWay_342 rfl (lv_at hl 7 rfl) ?_
                            refine lv_iload hx hb dX6_layWay_343 (lv_at hl 2 rfl) ?_
                            refine q_iadd hx hb dX6_layWay_345 ?_
                            refine q_top (v2 := .int (nI (a1 + fC w ro K d 6 (t1 + 1)))) (by rw [fC_s, Nat.add_assoc]) ?_
                            refine lv_istore_n (lv' := [(3, .int (nI (a1 + fC w ro K d 6 (t1 + 1)))), (2, .int (x3 - (nI (rtN w ro K d 6 t1)))), (9, .int (nI 0)), (13, .int (nI (rtN w ro K d 6 t1))), (12, .int (nI ((7 * t1) + (nx t1 d)))), (11, .int (nI (mv w K ro 6 t1 d))), (0, .ref (ad 71)), (1, .int (-6)), (4, .int (nI (d))), (5, .int (-6)), (7, .long (lN (fM w ro K d 6 6))), (10, .int (nI (t1)))]) hx hb dX6_layWay_346 rfl hl (by decide) rfl (fun ls hl => ?_)
                            refine q_iinc (z2 := t1 + 1) (lv' := [(10, .int (nI (t1 + 1))), (3, .int (nI (a1 + fC w ro K d 6 (t1 + 1)))), (2, .int (x3 - (nI (rtN w ro K d 6 t1)))), (9, .int (nI 0)), (13, .int (nI (rtN w ro K d 6 t1))), (12, .int (nI ((7 * t1) + (nx t1 d)))), (11, .int (nI (mv w K ro 6 t1 d))), (0, .ref (ad 71)), (1, .int (-6)), (4, .int (nI (d))), (5, .int (-6)), (7, .long (lN (fM w ro K d 6 6)))]) hx hb dX6_layWay_347 hl (k := 11) rfl (inc_up _ 1 (by decide)) (by decide) rfl (fun ls hl => ?_)
                            refine lv_goto (tgt := 153) hx hb dX6_layWay_350 (by decide) ?_
                            exact ih_153 (t1 + 1) (x3 - (nI (rtN w ro K d 6 t1))) (by omega) (by omega) (fun i hi => by by_cases e9 : i = t1; (rw [e9]; exact hnot); exact hno i (by omega)) _ _ hW _ (lv_sub hl [7, 8, 2, 1, 9, 10, 11, 3, 0] rfl)
                          ·
                            refine q_ic 1 hx hb dX6_layWay_262 (by decide) ?_
                            refine lv_goto (tgt := 281) hx hb dX6_layWay_263 (by decide) ?_
                            have hok : okM w ro K d 6 t1 = true := okM_iff.mpr ⟨by omega, (show mv w K ro 6 t1 d * Mx' w K ro (K - nx t1 d) t1 = _ from c_254).trans hMf⟩
                            refine lv_istore (lv' := [(9, .int (nI 1)), (13, .int (nI (rtN w ro K d 6 t1))), (12, .int (nI ((7 * t1) + (nx t1 d)))), (11, .int (nI (mv w K ro 6 t1 d))), (0, .ref (ad 71)), (1, .int (-6)), (2, .int (x3)), (3, .int (nI (a1 + fC w ro K d 6 t1))), (4, .int (nI (d))), (5, .int (-6)), (7, .long (lN (fM w ro K d 6 6))), (10, .int (nI (t1)))]) hx hb dX6_layWay_281 hl (by decide) rfl (fun ls hl => ?_)
                            refine lv_iload hx hb dX6_layWay_283 (lv_at hl 0 rfl) ?_
                            refine q_ieq (tgt := 337) hx hb dX6_layWay_285 (by decide) (by first | omega | exact Nat.lt_of_le_of_lt (hw3 _) (by decide)) (fun c_285 => absurd c_285 (by decide)) (fun c_285 => ?_)
                            refine lv_aload_n hx hb dX6_layWay_288 rfl (lv_at hl 4 rfl) ?_
                            refine g_6_11 (x := 71) (y := 81) hC hW (by omega) kd_71 gw_494 (hlk 71 11 81 (by omega) rfl) dX6_layWay_289 ?_
                            refine lv_aload_n hx hb dX6_layWay_292 rfl (lv_at hl 4 rfl) ?_
                            refine g_6_12 (x := 71) hC hW (by omega) kd_71 gw_495 dX6_layWay_293 ?_
                            refine q_top (v2 := .int (nI (s1))) (congrArg _ hF.2.1) ?_
                            refine lv_iload hx hb dX6_layWay_296 (lv_at hl 11 rfl) ?_
                            refine q_iast (x := 81) (i := s1) (v := nI t1) hC hW (by omega) kd_81 (by omega) dX6_layWay_298 (fun H locs hW => ?_)
                            refine lv_aload_n hx hb dX6_layWay_299 rfl (lv_at hl 4 rfl) ?_
                            refine lv_dup hx hb dX6_layWay_300 rfl ?_
                            refine g_6_12 (x := 71) hC hW (by omega) kd_71 gw_495 dX6_layWay_301 ?_
                            refine q_top (v2 := .int (nI (s1))) (congrArg _ (by rw [up2_ne (by decide)]; exact hF.2.1)) ?_
                            refine q_ic 1 hx hb dX6_layWay_304 (by decide) ?_
                            refine q_iadd hx hb dX6_layWay_305 ?_
                            refine p_6_12 (x := 71) (v := nI (s1 + 1)) hC hW (by omega) kd_71 gw_495 dX6_layWay_306 (fun H locs hW => ?_)
                            refine lv_aload_n hx hb dX6_layWay_309 rfl (lv_at hl 4 rfl) ?_
                            refine lv_dup hx hb dX6_layWay_310 rfl ?_
                            refine g_6_13 (x := 71) hC hW (by omega) kd_71 gw_496 dX6_layWay_311 ?_
                            refine lv_iload hx hb dX6_layWay_314 (lv_at hl 3 rfl) ?_
                            refine q_i2l hx hb dX6_layWay_316 (by first | omega | exact Nat.lt_of_le_of_lt (hw3 _) (by decide)) ?_
                            refine lv_lmul hx hb dX6_layWay_317 ?_
                            refine p_6_13 (x := 71) (v := (L1 71 13) * (lN (mv w K ro 6 t1 d))) hC hW (by omega) kd_71 gw_496 dX6_layWay_318 (fun H locs hW => ?_)
                            refine lv_iload hx hb dX6_layWay_321 (lv_at hl 11 rfl) ?_
                            refine lv_iload hx hb dX6_layWay_323 (lv_at hl 8 rfl) ?_
                            refine q_kI0 (q_rS (As := [.int (nI (t1)), .int (nI (d))]) (rest := []) hC hW mw_X6_toldThen gw_598 (k_toldThen l G n ad H.size (up2 (up2 I1 81 s1 (nI t1)) 71 12 (nI (s1 + 1))) (up2 L1 71 13 ((L1 71 13) * (lN (mv w K ro 6 t1 d)))) R _ _ (by omega) (by omega)) ⟨rfl, rfl⟩ ⟨Nat.le_of_ble_eq_true rfl, Nat.le_of_ble_eq_true rfl⟩ ⟨(Nat.le_of_ble_eq_true rfl), (Nat.le_of_ble_eq_true rfl)⟩ hl.1 rfl rfl (Nat.le_of_ble_eq_true rfl) dX6_layWay_325) hW (fun r_325 H locs hp hW => ?_)
                            subst hp
                            refine lv_istore (lv' := [(4, .int (nI (nx t1 d))), (9, .int (nI 1)), (13, .int (nI (rtN w ro K d 6 t1))), (12, .int (nI ((7 * t1) + (nx t1 d)))), (11, .int (nI (mv w K ro 6 t1 d))), (0, .ref (ad 71)), (1, .int (-6)), (2, .int (x3)), (3, .int (nI (a1 + fC w ro K d 6 t1))), (5, .int (-6)), (7, .long (lN (fM w ro K d 6 6))), (10, .int (nI (t1)))]) hx hb dX6_layWay_328 hl (by decide) rfl (fun ls hl => ?_)
                            refine lv_iload hx hb dX6_layWay_330 (lv_at hl 11 rfl) ?_
                            refine lv_istore (lv' := [(5, .int (nI (t1))), (4, .int (nI (nx t1 d))), (9, .int (nI 1)), (13, .int (nI (rtN w ro K d 6 t1))), (12, .int (nI ((7 * t1) + (nx t1 d)))), (11, .int (nI (mv w K ro 6 t1 d))), (0, .ref (ad 71)), (1, .int (-6)), (2, .int (x3)), (3, .int (nI (a1 + fC w ro K d 6 t1))), (7, .long (lN (fM w ro K d 6 6))), (10, .int (nI (t1)))]) hx hb dX6_layWay_332 hl (by decide) rfl (fun ls hl => ?_)
                            refine lv_goto (tgt := 347) hx hb dX6_layWay_334 (by decide) ?_
                            refine q_iinc (z2 := t1 + 1) (lv' := [(10, .int (nI (t1 + 1))), (5, .int (nI (t1))), (4, .int (nI (nx t1 d))), (9, .int (nI 1)), (13, .int (nI (rtN w ro K d 6 t1))), (12, .int (nI ((7 * t1) + (nx t1 d)))), (11, .int (nI (mv w K ro 6 t1 d))), (0, .ref (ad 71)), (1, .int (-6)), (2, .int (x3)), (3, .int (nI (a1 + fC w ro K d 6 t1))), (7, .long (lN (fM w ro K d 6 6)))]) hx hb dX6_layWay_347 hl (k := 11) rfl (inc_up _ 1 (by decide)) (by decide) rfl (fun ls hl => ?_)
                            refine lv_goto (tgt := 153) hx hb dX6_layWay_350 (by decide) ?_
                            refine lv_iload hx hb dX6_layWay_153 (lv_at hl 0 rfl) ?_
                            refine q_bp 6 hx hb dX6_layWay_155 (by decide) ?_
                            refine q_cge (tgt := 353) hx hb dX6_layWay_157 (by decide) (by first | omega | exact Nat.lt_of_le_of_lt (hw3 _) (by decide)) (by first | omega | exact Nat.lt_of_le_of_lt (hw3 _) (by decide)) (fun c_157 => ?_) (fun c_157 => ?_)
                            ·
                              refine lv_iload hx hb dX6_layWay_353 (lv_at hl 1 rfl) ?_
                              refine q_ic 4 hx hb dX6_layWay_355 (by decide) ?_
                              refine q_cge (tgt := 375) hx hb dX6_layWay_356 (by decide) (by first | omega | exact Nat.lt_of_le_of_lt (hw3 _) (by decide)) (by first | omega | exact Nat.lt_of_le_of_lt (hw3 _) (by decide)) (fun c_356 => ?_) (fun c_356 => ?_)
                              ·
                                refine q_ic 0 hx hb dX6_layWay_375 (by decide) ?_
                                refine lv_istore (lv' := [(6, .int (nI 0)), (10, .int (nI (t1 + 1))), (5, .int (nI (t1))), (4, .int (nI (nx t1 d))), (9, .int (nI 1)), (13, .int (nI (rtN w ro K d 6 t1))), (12, .int (nI ((7 * t1) + (nx t1 d)))), (11, .int (nI (mv w K ro 6 t1 d))), (0, .ref (ad 71)), (1, .int (-6)), (2, .int (x3)), (3, .int (nI (a1 + fC w ro K d 6 t1))), (7, .long (lN (fM w ro K d 6 6)))]) hx hb dX6_layWay_376 hl (by decide) rfl (fun ls hl => ?_)
                                have hnj := NJ_s hw hNJ hdK (show t1 < 6 by omega) hp1
                                have hbs := byM_s (w := w) (r := ro) hs18 hdK (show t1 < 6 by omega) hno hok
                                have hfj := FJ_s (hbs ▸ hF) hs18
                                have hq3 : a1 + fC w ro K d 6 t1 + rkN w ro K (nx t1 d) t1 (byM w ro K (19 - (s1 + 1)) (nx t1 d) t1) = rkN w ro K 0 6 (wayM w ro K) ∧ 0 < Cx' w K ro (K - nx t1 d) t1 := ⟨by rw [← hGI.1, hbs, Nat.add_assoc]; rfl, by have h8 := (okM_iff.mp hok).1; rw [rt_p hp1] at h8; exact h8⟩
                                have hen : bI (nx t1 d = K) = nI 0 := bI_f (by unfold nx; rw [if_neg (by omega)]; omega)
                                have hl : lv_has ls 14 [(6, .int (bI (nx t1 d = K))), (10, .int (nI (t1 + 1))), (5, .int (nI (t1))), (4, .int (nI (nx t1 d))), (9, .int (nI 1)), (13, .int (nI (rtN w ro K d 6 t1))), (12, .int (nI ((7 * t1) + (nx t1 d)))), (11, .int (nI (mv w K ro 6 t1 d))), (0, .ref (ad 71)), (1, .int (-6)), (2, .int (x3)), (3, .int (nI (a1 + fC w ro K d 6 t1))), (7, .long (lN (fM w ro K d 6 6)))] := by rw [hen]; exact hl
                                have hl : lv_has ls 14 [(6, .int (bI (nx t1 d = K))), (10, .int (nI (t1 + 1))), (5, .int (fr6 t1)), (4, .int (nI (nx t1 d))), (9, .int (nI 1)), (13, .int (nI (rtN w ro K d 6 t1))), (12, .int (nI ((7 * t1) + (nx t1 d)))), (11, .int (nI (mv w K ro 6 t1 d))), (0, .ref (ad 71)), (1, .int (-6)), (2, .int (x3)), (3, .int (nI (a1 + fC w ro K d 6 t1))), (7, .long (lN (fM w ro K d 6 6)))] := by rw [show fr6 t1 = nI t1 from if_neg (by omega)]; exact hl
                                refine lv_goto (tgt := 38) hx hb dX6_layWay_378 (by decide) ?_
                                exact ih_38 (s1 + 1) (nx t1 d) t1 x3 (a1 + fC w ro K d 6 t1) (up2 (up2 I1 81 s1 (nI t1)) 71 12 (nI (s1 + 1))) (up2 L1 71 13 ((L1 71 13) * (lN (mv w K ro 6 t1 d)))) (by omega) hfj hnj hq3 _ _ hW _ (lv_sub hl [8, 9, 10, 11, 3, 2, 0] rfl)
                              ·
                                refine lv_iload hx hb dX6_layWay_359 (lv_at hl 2 rfl) ?_
                                refine lv_aload_n hx hb dX6_layWay_361 rfl (lv_at hl 7 rfl) ?_
                                refine g_6_0 (x := 71) (y := 72) hC hW (by omega) kd_71 gw_483 (hlk 71 0 72 (by omega) rfl) dX6_layWay_362 ?_
                                refine q_bp 58 hx hb dX6_layWay_365 (by decide) ?_
                                refine q_iald (x := 72) (i := 58) hC hW (by omega) kd_72 (by omega) dX6_layWay_367 ?_
                                refine q_top (v2 := .int (nI (K))) (congrArg _ (by rw [up2_ne (by decide), up2_ne (by decide)]; exact hN1.2.1)) ?_
                                refine q_cne (tgt := 375) hx hb dX6_layWay_368 (by decide) (by first | omega | exact Nat.lt_of_le_of_lt (hw3 _) (by decide)) (by first | omega | exact Nat.lt_of_le_of_lt (hw3 _) (by decide)) (fun c_368 => ?_) (fun c_368 => ?_)
                                ·
                                  refine q_ic 0 hx hb dX6_layWay_375 (by decide) ?_
                                  refine lv_istore (lv' := [(6, .int (nI 0)), (10, .int (nI (t1 + 1))), (5, .int (nI (t1))), (4, .int (nI (nx t1 d))), (9, .int (nI 1)), (13, .int (nI (rtN w ro K d 6 t1))), (12, .int (nI ((7 * t1) + (nx t1 d)))), (11, .int (nI (mv w K ro 6 t1 d))), (0, .ref (ad 71)), (1, .int (-6)), (2, .int (x3)), (3, .int (nI (a1 + fC w ro K d 6 t1))), (7, .long (lN (fM w ro K d 6 6)))]) hx hb dX6_layWay_376 hl (by decide) rfl (fun ls hl => ?_)
                                  have hnj := NJ_s hw hNJ hdK (show t1 < 6 by omega) hp1
                                  have hbs := byM_s (w := w) (r := ro) hs18 hdK (show t1 < 6 by omega) hno hok
                                  have hfj := FJ_s (hbs ▸ hF) hs18
                                  have hq3 : a1 + fC w ro K d 6 t1 + rkN w ro K (nx t1 d) t1 (byM w ro K (19 - (s1 + 1)) (nx t1 d) t1) = rkN w ro K 0 6 (wayM w ro K) ∧ 0 < Cx' w K ro (K - nx t1 d) t1 := ⟨by rw [← hGI.1, hbs, Nat.add_assoc]; rfl, by have h8 := (okM_iff.mp hok).1; rw [rt_p hp1] at h8; exact h8⟩
                                  have hen : bI (nx t1 d = K) = nI 0 := bI_f (by omega)
                                  have hl : lv_has ls 14 [(6, .int (bI (nx t1 d = K))), (10, .int (nI (t1 + 1))), (5, .int (nI (t1))), (4, .int (nI (nx t1 d))), (9, .int (nI 1)), (13, .int (nI (rtN w ro K d 6 t1))), (12, .int (nI ((7 * t1) + (nx t1 d)))), (11, .int (nI (mv w K ro 6 t1 d))), (0, .ref (ad 71)), (1, .int (-6)), (2, .int (x3)), (3, .int (nI (a1 + fC w ro K d 6 t1))), (7, .long (lN (fM w ro K d 6 6)))] := by rw [hen]; exact hl
                                  have hl : lv_has ls 14 [(6, .int (bI (nx t1 d = K))), (10, .int (nI (t1 + 1))), (5, .int (fr6 t1)), (4, .int (nI (nx t1 d))), (9, .int (nI 1)), (13, .int (nI (rtN w ro K d 6 t1))), (12, .int (nI ((7 * t1) + (nx t1 d)))), (11, .int (nI (mv w K ro 6 t1 d))), (0, .ref (ad 71)), (1, .int (-6)), (2, .int (x3)), (3, .int (nI (a1 + fC w ro K d 6 t1))), (7, .long (lN (fM w ro K d 6 6)))] := by rw [show fr6 t1 = nI t1 from if_neg (by omega)]; exact hl
                                  refine lv_goto (tgt := 38) hx hb dX6_layWay_378 (by decide) ?_
                                  exact ih_38 (s1 + 1) (nx t1 d) t1 x3 (a1 + fC w ro K d 6 t1) (up2 (up2 I1 81 s1 (nI t1)) 71 12 (nI (s1 + 1))) (up2 L1 71 13 ((L1 71 13) * (lN (mv w K ro 6 t1 d)))) (by omega) hfj hnj hq3 _ _ hW _ (lv_sub hl [8, 9, 10, 11, 3, 2, 0] rfl)
                                ·
                                  refine q_ic 1 hx hb dX6_layWay_371 (by decide) ?_
                                  refine lv_goto (tgt := 376) hx hb dX6_layWay_372 (by decide) ?_
                                  refine lv_istore (lv' := [(6, .int (nI 1)), (10, .int (nI (t1 + 1))), (5, .int (nI (t1))), (4, .int (nI (nx t1 d))), (9, .int (nI 1)), (13, .int (nI (rtN w ro K d 6 t1))), (12, .int (nI ((7 * t1) + (nx t1 d)))), (11, .int (nI (mv w K ro 6 t1 d))), (0, .ref (ad 71)), (1, .int (-6)), (2, .int (x3)), (3, .int (nI (a1 + fC w ro K d 6 t1))), (7, .long (lN (fM w ro K d 6 6)))]) hx hb dX6_layWay_376 hl (by decide) rfl (fun ls hl => ?_)
                                  have hnj := NJ_s hw hNJ hdK (show t1 < 6 by omega) hp1
                                  have hbs := byM_s (w := w) (r := ro) hs18 hdK (show t1 < 6 by omega) hno hok
                                  have hfj := FJ_s (hbs ▸ hF) hs18
                                  have hq3 : a1 + fC w ro K d 6 t1 + rkN w ro K (nx t1 d) t1 (byM w ro K (19 - (s1 + 1)) (nx t1 d) t1) = rkN w ro K 0 6 (wayM w ro K) ∧ 0 < Cx' w K ro (K - nx t1 d) t1 := ⟨by rw [← hGI.1, hbs, Nat.add_assoc]; rfl, by have h8 := (okM_iff.mp hok).1; rw [rt_p hp1] at h8; exact h8⟩
                                  have hen : bI (nx t1 d = K) = nI 1 := bI_t (by omega)
                                  have hl : lv_has ls 14 [(6, .int (bI (nx t1 d = K))), (10, .int (nI (t1 + 1))), (5, .int (nI (t1))), (4, .int (nI (nx t1 d))), (9, .int (nI 1)), (13, .int (nI (rtN w ro K d 6 t1))), (12, .int (nI ((7 * t1) + (nx t1 d)))), (11, .int (nI (mv w K ro 6 t1 d))), (0, .ref (ad 71)), (1, .int (-6)), (2, .int (x3)), (3, .int (nI (a1 + fC w ro K d 6 t1))), (7, .long (lN (fM w ro K d 6 6)))] := by rw [hen]; exact hl
                                  have hl : lv_has ls 14 [(6, .int (bI (nx t1 d = K))), (10, .int (nI (t1 + 1))), (5, .int (fr6 t1)), (4, .int (nI (nx t1 d))), (9, .int (nI 1)), (13, .int (nI (rtN w ro K d 6 t1))), (12, .int (nI ((7 * t1) + (nx t1 d)))), (11, .int (nI (mv w K ro 6 t1 d))), (0, .ref (ad 71)), (1, .int (-6)), (2, .int (x3)), (3, .int (nI (a1 + fC w ro K d 6 t1))), (7, .long (lN (fM w ro K d 6 6)))] := by rw [show fr6 t1 = nI t1 from if_neg (by omega)]; exact hl
                                  refine lv_goto (tgt := 38) hx hb dX6_layWay_378 (by decide) ?_
                                  exact ih_38 (s1 + 1) (nx t1 d) t1 x3 (a1 + fC w ro K d 6 t1) (up2 (up2 I1 81 s1 (nI t1)) 71 12 (nI (s1 + 1))) (up2 L1 71 13 ((L1 71 13) * (lN (mv w K ro 6 t1 d)))) (by omega) hfj hnj hq3 _ _ hW _ (lv_sub hl [8, 9, 10, 11, 3, 2, 0] rfl)
                            ·
                              refine lv_iload hx hb dX6_layWay_160 (lv_at hl 3 rfl) ?_
                              refine q_ine (tgt := 353) hx hb dX6_layWay_162 (by decide) (by first | omega | exact Nat.lt_of_le_of_lt (hw3 _) (by decide)) (fun c_162 => ?_) (fun c_162 => absurd c_162 (by decide))
                              refine lv_iload hx hb dX6_layWay_353 (lv_at hl 1 rfl) ?_
                              refine q_ic 4 hx hb dX6_layWay_355 (by decide) ?_
                              refine q_cge (tgt := 375) hx hb dX6_layWay_356 (by decide) (by first | omega | exact Nat.lt_of_le_of_lt (hw3 _) (by decide)) (by first | omega | exact Nat.lt_of_le_of_lt (hw3 _) (by decide)) (fun c_356 => ?_) (fun c_356 => ?_)
                              ·
                                refine q_ic 0 hx hb dX6_layWay_375 (by decide) ?_
                                refine lv_istore (lv' := [(6, .int (nI 0)), (10, .int (nI (t1 + 1))), (5, .int (nI (t1))), (4, .int (nI (nx t1 d))), (9, .int (nI 1)), (13, .int (nI (rtN w ro K d 6 t1))), (12, .int (nI ((7 * t1) + (nx t1 d)))), (11, .int (nI (mv w K ro 6 t1 d))), (0, .ref (ad 71)), (1, .int (-6)), (2, .int (x3)), (3, .int (nI (a1 + fC w ro K d 6 t1))), (7, .long (lN (fM w ro K d 6 6)))]) hx hb dX6_layWay_376 hl (by decide) rfl (fun ls hl => ?_)
                                have hnj := NJ_s hw hNJ hdK (show t1 < 6 by omega) hp1
                                have hbs := byM_s (w := w) (r := ro) hs18 hdK (show t1 < 6 by omega) hno hok
                                have hfj := FJ_s (hbs ▸ hF) hs18
                                have hq3 : a1 + fC w ro K d 6 t1 + rkN w ro K (nx t1 d) t1 (byM w ro K (19 - (s1 + 1)) (nx t1 d) t1) = rkN w ro K 0 6 (wayM w ro K) ∧ 0 < Cx' w K ro (K - nx t1 d) t1 := ⟨by rw [← hGI.1, hbs, Nat.add_assoc]; rfl, by have h8 := (okM_iff.mp hok).1; rw [rt_p hp1] at h8; exact h8⟩
                                have hen : bI (nx t1 d = K) = nI 0 := bI_f (by unfold nx; rw [if_neg (by omega)]; omega)
                                have hl : lv_has ls 14 [(6, .int (bI (nx t1 d = K))), (10, .int (nI (t1 + 1))), (5, .int (nI (t1))), (4, .int (nI (nx t1 d))), (9, .int (nI 1)), (13, .int (nI (rtN w ro K d 6 t1))), (12, .int (nI ((7 * t1) + (nx t1 d)))), (11, .int (nI (mv w K ro 6 t1 d))), (0, .ref (ad 71)), (1, .int (-6)), (2, .int (x3)), (3, .int (nI (a1 + fC w ro K d 6 t1))), (7, .long (lN (fM w ro K d 6 6)))] := by rw [hen]; exact hl
                                have hl : lv_has ls 14 [(6, .int (bI (nx t1 d = K))), (10, .int (nI (t1 + 1))), (5, .int (fr6 t1)), (4, .int (nI (nx t1 d))), (9, .int (nI 1)), (13, .int (nI (rtN w ro K d 6 t1))), (12, .int (nI ((7 * t1) + (nx t1 d)))), (11, .int (nI (mv w K ro 6 t1 d))), (0, .ref (ad 71)), (1, .int (-6)), (2, .int (x3)), (3, .int (nI (a1 + fC w ro K d 6 t1))), (7, .long (lN (fM w ro K d 6 6)))] := by rw [show fr6 t1 = nI t1 from if_neg (by omega)]; exact hl
                                refine lv_goto (tgt := 38) hx hb dX6_layWay_378 (by decide) ?_
                                exact ih_38 (s1 + 1) (nx t1 d) t1 x3 (a1 + fC w ro K d 6 t1) (up2 (up2 I1 81 s1 (nI t1)) 71 12 (nI (s1 + 1))) (up2 L1 71 13 ((L1 71 13) * (lN (mv w K ro 6 t1 d)))) (by omega) hfj hnj hq3 _ _ hW _ (lv_sub hl [8, 9, 10, 11, 3, 2, 0] rfl)
                              ·
                                refine lv_iload hx hb dX6_layWay_359 (lv_at hl 2 rfl) ?_
                                refine lv_aload_n hx hb dX6_layWay_361 rfl (lv_at hl 7 rfl) ?_
                                refine g_6_0 (x := 71) (y := 72) hC hW (by omega) kd_71 gw_483 (hlk 71 0 72 (by omega) rfl) dX6_layWay_362 ?_
                                refine q_bp 58 hx hb dX6_layWay_365 (by decide) ?_
                                refine q_iald (x := 72) (i := 58) hC hW (by omega) kd_72 (by omega) dX6_layWay_367 ?_
                                refine q_top (v2 := .int (nI (K))) (congrArg _ (by rw [up2_ne (by decide), up2_ne (by decide)]; exact hN1.2.1)) ?_
                                refine q_cne (tgt := 375) hx hb dX6_layWay_368 (by decide) (by first | omega | exact Nat.lt_of_le_of_lt (hw3 _) (by decide)) (by first | omega | exact Nat.lt_of_le_of_lt (hw3 _) (by decide)) (fun c_368 => ?_) (fun c_368 => ?_)
                                ·
                                  refine q_ic 0 hx hb dX6_layWay_375 (by decide) ?_
                                  refine lv_istore (lv' := [(6, .int (nI 0)), (10, .int (nI (t1 + 1))), (5, .int (nI (t1))), (4, .int (nI (nx t1 d))), (9, .int (nI 1)), (13, .int (nI (rtN w ro K d 6 t1))), (12, .int (nI ((7 * t1) + (nx t1 d)))), (11, .int (nI (mv w K ro 6 t1 d))), (0, .ref (ad 71)), (1, .int (-6)), (2, .int (x3)), (3, .int (nI (a1 + fC w ro K d 6 t1))), (7, .long (lN (fM w ro K d 6 6)))]) hx hb dX6_layWay_376 hl (by decide) rfl (fun ls hl => ?_)
                                  have hnj := NJ_s hw hNJ hdK (show t1 < 6 by omega) hp1
                                  have hbs := byM_s (w := w) (r := ro) hs18 hdK (show t1 < 6 by omega) hno hok
                                  have hfj := FJ_s (hbs ▸ hF) hs18
                                  have hq3 : a1 + fC w ro K d 6 t1 + rkN w ro K (nx t1 d) t1 (byM w ro K (19 - (s1 + 1)) (nx t1 d) t1) = rkN w ro K 0 6 (wayM w ro K) ∧ 0 < Cx' w K ro (K - nx t1 d) t1 := ⟨by rw [← hGI.1, hbs, Nat.add_assoc]; rfl, by have h8 := (okM_iff.mp hok).1; rw [rt_p hp1] at h8; exact h8⟩
                                  have hen : bI (nx t1 d = K) = nI 0 := bI_f (by omega)
                                  have hl : lv_has ls 14 [(6, .int (bI (nx t1 d = K))), (10, .int (nI (t1 + 1))), (5, .int (nI (t1))), (4, .int (nI (nx t1 d))), (9, .int (nI 1)), (13, .int (nI (rtN w ro K d 6 t1))), (12, .int (nI ((7 * t1) + (nx t1 d)))), (11, .int (nI (mv w K ro 6 t1 d))), (0, .ref (ad 71)), (1, .int (-6)), (2, .int (x3)), (3, .int (nI (a1 + fC w ro K d 6 t1))), (7, .long (lN (fM w ro K d 6 6)))] := by rw [hen]; exact hl
                                  have hl : lv_has ls 14 [(6, .int (bI (nx t1 d = K))), (10, .int (nI (t1 + 1))), (5, .int (fr6 t1)), (4, .int (nI (nx t1 d))), (9, .int (nI 1)), (13, .int (nI (rtN w ro K d 6 t1))), (12, .int (nI ((7 * t1) + (nx t1 d)))), (11, .int (nI (mv w K ro 6 t1 d))), (0, .ref (ad 71)), (1, .int (-6)), (2, .int (x3)), (3, .int (nI (a1 + fC w ro K d 6 t1))), (7, .long (lN (fM w ro K d 6 6)))] := by rw [show fr6 t1 = nI t1 from if_neg (by omega)]; exact hl
                                  refine lv_goto (tgt := 38) hx hb dX6_layWay_378 (by decide) ?_
                                  exact ih_38 (s1 + 1) (nx t1 d) t1 x3 (a1 + fC w ro K d 6 t1) (up2 (up2 I1 81 s1 (nI t1)) 71 12 (nI (s1 + 1))) (up2 L1 71 13 ((L1 71 13) * (lN (mv w K ro 6 t1 d)))) (by omega) hfj hnj hq3 _ _ hW _ (lv_sub hl [8, 9, 10, 11, 3, 2, 0] rfl)
                                ·
                                  refine q_ic 1 hx hb dX6_layWay_371 (by decide) ?_
                                  refine lv_goto (tgt := 376) hx hb dX6_layWay_372 (by decide) ?_
                                  refine lv_istore (lv' := [(6, .int (nI 1)), (10, .int (nI (t1 + 1))), (5, .int (nI (t1))), (4, .int (nI (nx t1 d))), (9, .int (nI 1)), (13, .int (nI (rtN w ro K d 6 t1))), (12, .int (nI ((7 * t1) + (nx t1 d)))), (11, .int (nI (mv w K ro 6 t1 d))), (0, .ref (ad 71)), (1, .int (-6)), (2, .int (x3)), (3, .int (nI (a1 + fC w ro K d 6 t1))), (7, .long (lN (fM w ro K d 6 6)))]) hx hb dX6_layWay_376 hl (by decide) rfl (fun ls hl => ?_)
                                  have hnj := NJ_s hw hNJ hdK (show t1 < 6 by omega) hp1
                                  have hbs := byM_s (w := w) (r := ro) hs18 hdK (show t1 < 6 by omega) hno hok
                                  have hfj := FJ_s (hbs ▸ hF) hs18
                                  have hq3 : a1 + fC w ro K d 6 t1 + rkN w ro K (nx t1 d) t1 (byM w ro K (19 - (s1 + 1)) (nx t1 d) t1) = rkN w ro K 0 6 (wayM w ro K) ∧ 0 < Cx' w K ro (K - nx t1 d) t1 := ⟨by rw [← hGI.1, hbs, Nat.add_assoc]; rfl, by have h8 := (okM_iff.mp hok).1; rw [rt_p hp1] at h8; exact h8⟩
                                  have hen : bI (nx t1 d = K) = nI 1 := bI_t (by omega)
                                  have hl : lv_has ls 14 [(6, .int (bI (nx t1 d = K))), (10, .int (nI (t1 + 1))), (5, .int (nI (t1))), (4, .int (nI (nx t1 d))), (9, .int (nI 1)), (13, .int (nI (rtN w ro K d 6 t1))), (12, .int (nI ((7 * t1) + (nx t1 d)))), (11, .int (nI (mv w K ro 6 t1 d))), (0, .ref (ad 71)), (1, .int (-6)), (2, .int (x3)), (3, .int (nI (a1 + fC w ro K d 6 t1))), (7, .long (lN (fM w ro K d 6 6)))] := by rw [hen]; exact hl
                                  have hl : lv_has ls 14 [(6, .int (bI (nx t1 d = K))), (10, .int (nI (t1 + 1))), (5, .int (fr6 t1)), (4, .int (nI (nx t1 d))), (9, .int (nI 1)), (13, .int (nI (rtN w ro K d 6 t1))), (12, .int (nI ((7 * t1) + (nx t1 d)))), (11, .int (nI (mv w K ro 6 t1 d))), (0, .ref (ad 71)), (1, .int (-6)), (2, .int (x3)), (3, .int (nI (a1 + fC w ro K d 6 t1))), (7, .long (lN (fM w ro K d 6 6)))] := by rw [show fr6 t1 = nI t1 from if_neg (by omega)]; exact hl
                                  refine lv_goto (tgt := 38) hx hb dX6_layWay_378 (by decide) ?_
                                  exact ih_38 (s1 + 1) (nx t1 d) t1 x3 (a1 + fC w ro K d 6 t1) (up2 (up2 I1 81 s1 (nI t1)) 71 12 (nI (s1 + 1))) (up2 L1 71 13 ((L1 71 13) * (lN (mv w K ro 6 t1 d)))) (by omega) hfj hnj hq3 _ _ hW _ (lv_sub hl [8, 9, 10, 11, 3, 2, 0] rfl)
                  exact lp_153 (6 + 1) 0 x2 (by omega) (by omega) (fun i hi => absurd hi (by omega)) _ _ hW _ (lv_sub hl [2, 3, 4, 5, 6, 7, 8, 1, 0] rfl)
                ·
                  refine lv_aload_n hx hb dX6_layWay_56 rfl (lv_at hl 0 rfl) ?_
                  refine lv_iload hx hb dX6_layWay_57 (lv_at hl 5 rfl) ?_
                  refine lv_if_ge (tgt := 72) hx hb dX6_layWay_59 (by decide) (fun c_59 => absurd c_59 (by decide)) (fun c_59 => ?_)
                  refine lv_aload_n hx hb dX6_layWay_62 rfl (lv_at hl 0 rfl) ?_
                  refine g_6_0 (x := 71) (y := 72) hC hW (by omega) kd_71 gw_483 (hlk 71 0 72 (by omega) rfl) dX6_layWay_63 ?_
                  refine lv_iload hx hb dX6_layWay_66 (lv_at hl 7 rfl) ?_
                  refine q_iald (x := 72) (i := t1) hC hW (by omega) kd_72 (by omega) dX6_layWay_68 ?_
                  refine q_top (v2 := .int (nI (w (6 * 6 + t1)))) (congrArg _ ((hN1.1 _ (by omega)).trans (congrArg nI (rwt_b w (by omega))))) ?_
                  refine lv_goto (tgt := 80) hx hb dX6_layWay_69 (by decide) ?_
                  refine lv_iload hx hb dX6_layWay_80 (lv_at hl 7 rfl) ?_
                  refine lv_iload hx hb dX6_layWay_82 (lv_at hl 4 rfl) ?_
                  refine q_kI0 (q_rV (As := [.int (nI (w (6 * 6 + t1))), .int (nI (t1)), .int (nI (d))]) (rest := []) (x := 71) hC hW mw_X6_going gw_590 (k_going l G n ad H.size I1 L1 R _ _ _ (hw3 _) (by omega) (by omega) w K ro hn hlk hN1) (by omega) (ct_o6 kd_71) rfl ⟨rfl, rfl⟩ ⟨Nat.le_of_ble_eq_true rfl, Nat.le_of_ble_eq_true rfl⟩ ⟨(Nat.le_of_ble_eq_true rfl), (Nat.le_of_ble_eq_true rfl)⟩ hl.1 rfl rfl (Nat.le_of_ble_eq_true rfl) dX6_layWay_84) hW (fun r_84 H locs hp hW => ?_)
                  subst hp
                  refine q_top (v2 := .int (nI (mv w K ro 6 t1 d))) rfl ?_
                  have hm9 := mv_le hw K ro 6 t1 d
                  refine q_i2l hx hb dX6_layWay_87 (by first | omega | exact Nat.lt_of_le_of_lt (hw3 _) (by decide)) ?_
                  refine lv_lstore (lv' := [(10, .long (lN (mv w K ro 6 t1 d))), (0, .ref (ad 71)), (1, .int (-6)), (2, .int (x2)), (3, .int (nI (a1))), (4, .int (nI (d))), (5, .int (-6)), (7, .long (lN (fM w ro K d 6 t1))), (9, .int (nI (t1)))]) hx hb dX6_layWay_88 hl (by decide) rfl (fun ls hl => ?_)
                  refine lv_lload hx hb dX6_layWay_90 (lv_at hl 0 rfl) ?_
                  refine q_lc 0 hx hb dX6_layWay_92 (by decide) ?_
                  refine q_lcmp hx hb dX6_layWay_93 ?_
                  refine q_lle (tgt := 121) hx hb dX6_layWay_94 (by decide) (by first | decide | omega | assumption) (by first | decide | omega | assumption) (fun c_94 => ?_) (fun c_94 => ?_)
                  ·
                    have hz1 : mv w K ro 6 t1 d = 0 := by omega
                    refine q_lc 0 hx hb dX6_layWay_121 (by decide) ?_
                    refine lv_lstore (lv' := [(12, .long (lN 0)), (10, .long (lN (mv w K ro 6 t1 d))), (0, .ref (ad 71)), (1, .int (-6)), (2, .int (x2)), (3, .int (nI (a1))), (4, .int (nI (d))), (5, .int (-6)), (7, .long (lN (fM w ro K d 6 t1))), (9, .int (nI (t1)))]) hx hb dX6_layWay_122 hl (by decide) rfl (fun ls hl => ?_)
                    refine lv_lload hx hb dX6_layWay_124 (lv_at hl 0 rfl) ?_
                    refine lv_lload hx hb dX6_layWay_126 (lv_at hl 8 rfl) ?_
                    refine q_lcmp hx hb dX6_layWay_128 ?_
                    refine q_lle (tgt := 137) hx hb dX6_layWay_129 (by decide) (by decide) (Nat.lt_of_le_of_lt (fM_b hw (r := ro) K d 6 t1 hk6) (by decide)) (fun c_129 => ?_) (fun c_129 => ?_)
                    ·
                      refine lv_lload hx hb dX6_layWay_137 (lv_at hl 8 rfl) ?_
                      refine q_top (v2 := .long (lN (fM w ro K d 6 (t1 + 1)))) (congrArg (fun z => Value.long (lN z)) (show fM w ro K d 6 t1 = fM w ro K d 6 (t1 + 1) from by have h9 := fM_n (w := w) (r := ro) (K := K) (d := d) (f := 6) (i := t1) hz1; omega)) ?_
                      refine lv_lstore (lv' := [(7, .long (lN (fM w ro K d 6 (t1 + 1)))), (12, .long (lN 0)), (10, .long (lN (mv w K ro 6 t1 d))), (0, .ref (ad 71)), (1, .int (-6)), (2, .int (x2)), (3, .int (nI (a1))), (4, .int (nI (d))), (5, .int (-6)), (9, .int (nI (t1)))]) hx hb dX6_layWay_139 hl (by decide) rfl (fun ls hl => ?_)
                      refine q_iinc (z2 := t1 + 1) (lv' := [(9, .int (nI (t1 + 1))), (7, .long (lN (fM w ro K d 6 (t1 + 1)))), (12, .long (lN 0)), (10, .long (lN (mv w K ro 6 t1 d))), (0, .ref (ad 71)), (1, .int (-6)), (2, .int (x2)), (3, .int (nI (a1))), (4, .int (nI (d))), (5, .int (-6))]) hx hb dX6_layWay_141 hl (k := 9) rfl (inc_up _ 1 (by decide)) (by decide) rfl (fun ls hl => ?_)
                      refine lv_goto (tgt := 49) hx hb dX6_layWay_144 (by decide) ?_
                      exact ih_49 (t1 + 1) (by omega) (by omega) _ _ hW _ (lv_sub hl [4, 5, 6, 7, 8, 9, 1, 0] rfl)
                    ·
                      refine lv_lload hx hb dX6_layWay_132 (lv_at hl 0 rfl) ?_
                      refine lv_goto (tgt := 139) hx hb dX6_layWay_134 (by decide) ?_
                      refine q_top (v2 := .long (lN (fM w ro K d 6 (t1 + 1)))) (congrArg (fun z => Value.long (lN z)) (show 0 = fM w ro K d 6 (t1 + 1) from by have h9 := fM_n (w := w) (r := ro) (K := K) (d := d) (f := 6) (i := t1) hz1; omega)) ?_
                      refine lv_lstore (lv' := [(7, .long (lN (fM w ro K d 6 (t1 + 1)))), (12, .long (lN 0)), (10, .long (lN (mv w K ro 6 t1 d))), (0, .ref (ad 71)), (1, .int (-6)), (2, .int (x2)), (3, .int (nI (a1))), (4, .int (nI (d))), (5, .int (-6)), (9, .int (nI (t1)))]) hx hb dX6_layWay_139 hl (by decide) rfl (fun ls hl => ?_)
                      refine q_iinc (z2 := t1 + 1) (lv' := [(9, .int (nI (t1 + 1))), (7, .long (lN (fM w ro K d 6 (t1 + 1)))), (12, .long (lN 0)), (10, .long (lN (mv w K ro 6 t1 d))), (0, .ref (ad 71)), (1, .int (-6)), (2, .int (x2)), (3, .int (nI (a1))), (4, .int (nI (d))), (5, .int (-6))]) hx hb dX6_layWay_141 hl (k := 9) rfl (inc_up _ 1 (by decide)) (by decide) rfl (fun ls hl => ?_)
                      refine lv_goto (tgt := 49) hx hb dX6_layWay_144 (by decide) ?_
                      exact ih_49 (t1 + 1) (by omega) (by omega) _ _ hW _ (lv_sub hl [4, 5, 6, 7, 8, 9, 1, 0] rfl)
                  ·
                    have hp1 : 0 < mv w K ro 6 t1 d := by omega
                    have hnx : nx t1 d ≤ K := nx_K2 hp1 (by omega)
                    have hmb := mM_lt hw (r := ro) K d 6 t1 hk6
                    refine lv_lload hx hb dX6_layWay_97 (lv_at hl 0 rfl) ?_
                    refine lv_aload_n hx hb dX6_layWay_99 rfl (lv_at hl 1 rfl) ?_
                    refine g_6_10 (x := 71) (y := 80) hC hW (by omega) kd_71 gw_493 (hlk 71 10 80 (by omega) rfl) dX6_layWay_100 ?_
                    refine q_bp 7 hx hb dX6_layWay_103 (by decide) ?_
                    refine lv_iload hx hb dX6_layWay_105 (lv_at hl 8 rfl) ?_
                    refine q_imul hx hb dX6_layWay_107 ?_
                    refine lv_iload hx hb dX6_layWay_108 (lv_at hl 8 rfl) ?_
                    refine lv_iload hx hb dX6_layWay_110 (lv_at hl 5 rfl) ?_
                    refine q_kI0 (q_rS (As := [.int (nI (t1)), .int (nI (d))]) (rest := [.int (nI (7 * t1)), .ref (ad 80), .long (lN (mv w K ro 6 t1 d))]) hC hW mw_X6_toldThen gw_598 (k_toldThen l G n ad H.size I1 L1 R _ _ (by omega) (by omega)) ⟨rfl, rfl⟩ ⟨Nat.le_of_ble_eq_true rfl, Nat.le_of_ble_eq_true rfl⟩ ⟨(Nat.le_of_ble_eq_true rfl), (Nat.le_of_ble_eq_true rfl)⟩ hl.1 rfl rfl (Nat.le_of_ble_eq_true rfl) dX6_layWay_112) hW (fun r_112 H locs hp hW => ?_)
                    subst hp
                    refine q_iadd hx hb dX6_layWay_115 ?_
                    refine q_lald (x := 80) (i := (7 * t1) + (nx t1 d)) hC hW (by omega) kd_80 (by omega) dX6_layWay_116 ?_
                    refine q_top (v2 := .long (lN (Mx' w K ro (K - (nx t1 d)) t1))) (congrArg _ (hB1 (nx t1 d) t1 (by omega) hnx (by omega)).2.1) ?_
                    refine q_lmul hx hb dX6_layWay_117 ?_
                    refine lv_goto (tgt := 122) hx hb dX6_layWay_118 (by decide) ?_
                    refine lv_lstore (lv' := [(12, .long (lN ((mv w K ro 6 t1 d) * (Mx' w K ro (K - (nx t1 d)) t1)))), (10, .long (lN (mv w K ro 6 t1 d))), (0, .ref (ad 71)), (1, .int (-6)), (2, .int (x2)), (3, .int (nI (a1))), (4, .int (nI (d))), (5, .int (-6)), (7, .long (lN (fM w ro K d 6 t1))), (9, .int (nI (t1)))]) hx hb dX6_layWay_122 hl (by decide) rfl (fun ls hl => ?_)
                    refine lv_lload hx hb dX6_layWay_124 (lv_at hl 0 rfl) ?_
                    refine lv_lload hx hb dX6_layWay_126 (lv_at hl 8 rfl) ?_
                    refine q_lcmp hx hb dX6_layWay_128 ?_
                    refine q_lle (tgt := 137) hx hb dX6_layWay_129 (by decide) hmb (Nat.lt_of_le_of_lt (fM_b hw (r := ro) K d 6 t1 hk6) (by decide)) (fun c_129 => ?_) (fun c_129 => ?_)
                    ·
                      refine lv_lload hx hb dX6_layWay_137 (lv_at hl 8 rfl) ?_
                      refine q_top (v2 := .long (lN (fM w ro K d 6 (t1 + 1)))) (congrArg (fun z => Value.long (lN z)) (show fM w ro K d 6 t1 = fM w ro K d 6 (t1 + 1) from by have h9 := fM_p (w := w) (r := ro) (K := K) (d := d) (f := 6) (i := t1) hp1; omega)) ?_
                      refine lv_lstore (lv' := [(7, .long (lN (fM w ro K d 6 (t1 + 1)))), (12, .long (lN ((mv w K ro 6 t1 d) * (Mx' w K ro (K - (nx t1 d)) t1)))), (10, .long (lN (mv w K ro 6 t1 d))), (0, .ref (ad 71)), (1, .int (-6)), (2, .int (x2)), (3, .int (nI (a1))), (4, .int (nI (d))), (5, .int (-6)), (9, .int (nI (t1)))]) hx hb dX6_layWay_139 hl (by decide) rfl (fun ls hl => ?_)
                      refine q_iinc (z2 := t1 + 1) (lv' := [(9, .int (nI (t1 + 1))), (7, .long (lN (fM w ro K d 6 (t1 + 1)))), (12, .long (lN ((mv w K ro 6 t1 d) * (Mx' w K ro (K - (nx t1 d)) t1)))), (10, .long (lN (mv w K ro 6 t1 d))), (0, .ref (ad 71)), (1, .int (-6)), (2, .int (x2)), (3, .int (nI (a1))), (4, .int (nI (d))), (5, .int (-6))]) hx hb dX6_layWay_141 hl (k := 9) rfl (inc_up _ 1 (by decide)) (by decide) rfl (fun ls hl => ?_)
                      refine lv_goto (tgt := 49) hx hb dX6_layWay_144 (by decide) ?_
                      exact ih_49 (t1 + 1) (by omega) (by omega) _ _ hW _ (lv_sub hl [4, 5, 6, 7, 8, 9, 1, 0] rfl)
                    ·
                      refine lv_lload hx hb dX6_layWay_132 (lv_at hl 0 rfl) ?_
                      refine lv_goto (tgt := 139) hx hb dX6_layWay_134 (by decide) ?_
                      refine q_top (v2 := .long (lN (fM w ro K d 6 (t1 + 1)))) (congrArg (fun z => Value.long (lN z)) (show (mv w K ro 6 t1 d) * (Mx' w K ro (K - (nx t1 d)) t1) = fM w ro K d 6 (t1 + 1) from by have h9 := fM_p (w := w) (r := ro) (K := K) (d := d) (f := 6) (i := t1) hp1; omega)) ?_
                      refine lv_lstore (lv' := [(7, .long (lN (fM w ro K d 6 (t1 + 1)))), (12, .long (lN ((mv w K ro 6 t1 d) * (Mx' w K ro (K - (nx t1 d)) t1)))), (10, .long (lN (mv w K ro 6 t1 d))), (0, .ref (ad 71)), (1, .int (-6)), (2, .int (x2)), (3, .int (nI (a1))), (4, .int (nI (d))), (5, .int (-6)), (9, .int (nI (t1)))]) hx hb dX6_layWay_139 hl (by decide) rfl (fun ls hl => ?_)
                      refine q_iinc (z2 := t1 + 1) (lv' := [(9, .int (nI (t1 + 1))), (7, .long (lN (fM w ro K d 6 (t1 + 1)))), (12, .long (lN ((mv w K ro 6 t1 d) * (Mx' w K ro (K - (nx t1 d)) t1)))), (10, .long (lN (mv w K ro 6 t1 d))), (0, .ref (ad 71)), (1, .int (-6)), (2, .int (x2)), (3, .int (nI (a1))), (4, .int (nI (d))), (5, .int (-6))]) hx hb dX6_layWay_141 hl (k := 9) rfl (inc_up _ 1 (by decide)) (by decide) rfl (fun ls hl => ?_)
                      refine lv_goto (tgt := 49) hx hb dX6_layWay_144 (by decide) ?_
                      exact ih_49 (t1 + 1) (by omega) (by omega) _ _ hW _ (lv_sub hl [4, 5, 6, 7, 8, 9, 1, 0] rfl)
            exact lp_49 (6 + 1) 0 (by omega) (by omega) _ _ hW _ (lv_sub hl [2, 3, 4, 5, 6, 7, 1, 0] rfl)
    exact lp_38 (18 + 1) 0 0 6 (-6) 0 (up2 I 71 12 (nI 0)) (up2 L 71 13 (lN 1)) (by omega) (FJ_0 (by rw [up2_at, if_pos ⟨rfl, rfl⟩]) (by rw [up2_at, if_pos ⟨rfl, rfl⟩]) (fun a h1 _ => up2_ne h1) (fun j hj => by rw [up2_at, if_neg (fun q9 => hj q9.2)]) (fun a ha => up2_ne ha)) (NJ_0 K) (⟨Nat.zero_add _, hC0⟩) _ _ hW _ (lv_sub hl [5, 6, 4, 3, 2, 1, 0] rfl)
