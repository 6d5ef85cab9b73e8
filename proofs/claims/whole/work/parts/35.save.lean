theorem LkOK_new {n n1 : Nat} {R R1 : Rc} (h : LkOK n R) (hR : ∀ a, a < n → R1 a = R a) (h1 : ∀ a j y, n ≤ a → a < n1 → lkf a j = some y → R1 a j = some y) : LkOK n1 R1 := fun a j y ha hl => by
  by_cases e : a < n
  · rw [hR a e]; exact h a j y e hl
  · exact h1 a j y (by omega) ha hl
theorem save_PA {n n1 : Nat} {ad ad1 : Nat → Nat} {I I1 : Ic} {L L1 : Lc} {R R1 : Rc} {w : Nat → Nat} {K : Nat} {ro : Nat → Nat} {hc : Nat} {hi : Nat → CM} {sv : Nat → Option CM} {pn : Nat} {ch : Nat → Nat} {j cx : Nat} (h : InvA n I L R ((w, K, ro), hc, hi, sv, pn, ch)) (hx1 : 83 + 3 * cx + 2 < n1) (hnn : n ≤ n1) (hcn : ∃ c, n1 = 83 + 3 * c) (had : ∀ k, k < n → ad1 k = ad k) (hI : ∀ a, a < n → a ≠ 83 + 3 * cx → a ≠ 83 + 3 * cx + 1 → a ≠ 83 + 3 * cx + 2 → I1 a = I a) (hL : ∀ a, a < n → L1 a = L a) (hR : ∀ a, a < n → a ≠ 5 → R1 a = R a) (hR5 : ∀ i, R1 5 i = if i = j then some (83 + 3 * cx) else R 5 i) (hm : MdA I1 (83 + 3 * cx) (w, K, ro)) (hlk1 : LkOK n1 R1) (hcl1 : Cl n1 R1) (hne : ∀ i, i < 2 → i ≠ j → R 5 i ≠ some (83 + 3 * cx)) : PA n ad I L R ((w, K, ro), hc, hi, (fun i => if i = j then some (w, K, ro) else sv i), pn, ch) (n1, ad1, I1, L1, R1) := by
  have h83 := h.1
  have hI2 : ∀ a, a < 83 → I1 a = I a := fun a ha => hI a (by omega) (by omega) (by omega) (by omega)
  refine ⟨⟨by show 83 ≤ n1; omega, hlk1, MdI_lo h.2.2.1 (fun a ha => hI2 a (by omega)), SI_lo h.2.2.2.1 (fun a ha => hL a (by omega)), PadI_lo h.2.2.2.2.1 (hI2 6 (by decide)) (hI2 7 (by decide)), ?_, ?_⟩, ⟨hnn, had⟩, fun a h1 h2 => ⟨hI2 a h2, hL a (by omega)⟩⟩
  · have h6 := HiA_fr h.2.2.2.2.2.1 (hI2 0 (by decide)) (fun a _ h2 => hI2 a (by omega))
    show HiA I1 R1 _ _
    unfold HiA at h6 ⊢
    rw [hR 4 (by omega) (by decide)]
    exact h6
  · obtain ⟨sm, b1, b2, -, -⟩ := h.2.2.2.2.2.2
    have hs : ∀ i, i < 2 → i ≠ j → sv i ≠ none → sm i ≠ cx := fun i hi hij hsv e => by
      cases e2 : sv i with
      | none => exact hsv e2
      | some m => exact hne i hi hij (by rw [← e]; exact ((b1 i hi).1 m e2).1)
    refine ⟨fun i => if i = j then cx else sm i, fun i hi => ⟨fun m hm1 => ?_, fun hm1 => ?_⟩, fun i i2 hi hi2 h1 h2 h3 => ?_, hcl1, hcn⟩
    · have hm1 : (if i = j then some (w, K, ro) else sv i) = some m := hm1
      show R1 5 i = some (83 + 3 * (if i = j then cx else sm i)) ∧ 83 + 3 * (if i = j then cx else sm i) + 2 < n1 ∧ MdA I1 (83 + 3 * (if i = j then cx else sm i)) m
      rw [hR5 i]
      by_cases e : i = j
      · rw [if_pos e] at hm1
        cases hm1
        rw [if_pos e, if_pos e]
        exact ⟨rfl, hx1, hm⟩
      · rw [if_neg e] at hm1
        rw [if_neg e, if_neg e]
        have b := (b1 i hi).1 m hm1
        have b2 := b.2.1
        have b2 : 83 + 3 * sm i + 2 < n := b2
        have hsi := hs i hi e (by rw [hm1]; exact fun q => by cases q)
        exact ⟨b.1, by omega, MdA_fr b.2.2 (hI _ (by omega) (by omega) (by omega) (by omega)) (hI _ (by omega) (by omega) (by omega) (by omega)) (hI _ (by omega) (by omega) (by omega) (by omega))⟩
    · have hm1 : (if i = j then some (w, K, ro) else sv i) = none := hm1
      by_cases e : i = j
      · rw [if_pos e] at hm1; cases hm1
      · rw [if_neg e] at hm1
        show R1 5 i = none
        rw [hR5 i, if_neg e]
        exact (b1 i hi).2 hm1
    · have h1 : (if i = j then some (w, K, ro) else sv i) ≠ none := h1
      have h2 : (if i2 = j then some (w, K, ro) else sv i2) ≠ none := h2
      have h3 : (if i = j then cx else sm i) = (if i2 = j then cx else sm i2) := h3
      by_cases e : i = j
      · by_cases e2 : i2 = j
        · omega
        · rw [if_neg e2] at h2
          rw [if_pos e, if_neg e2] at h3
          exact absurd h3.symm (hs i2 hi2 e2 h2)
      · rw [if_neg e] at h1
        by_cases e2 : i2 = j
        · rw [if_neg e, if_pos e2] at h3
          exact absurd h3 (hs i hi e h1)
        · rw [if_neg e2] at h2
          rw [if_neg e, if_neg e2] at h3
          exact b2 i i2 hi hi2 h1 h2 h3

theorem sl_inj {n : Nat} {I : Ic} {R : Rc} {sv : Nat → Option CM} {sm : Nat → Nat} {m : CM} {i u : Nat} (hA : ∀ i, i < 2 → (∀ m, sv i = some m → R 5 i = some (83 + 3 * sm i) ∧ 83 + 3 * sm i + 2 < n ∧ MdA I (83 + 3 * sm i) m) ∧ (sv i = none → R 5 i = none)) (hB : (∀ i j, i < 2 → j < 2 → sv i ≠ none → sv j ≠ none → sm i = sm j → i = j) ∧ Cl n R ∧ ∃ c, n = 83 + 3 * c) (hi : i < 2) (hu : u < 2) (hs : sv u = some m) (e : R 5 i = some (83 + 3 * sm u)) : i = u := by
  cases e2 : sv i with
  | none => rw [(hA i hi).2 e2] at e; cases e
  | some m2 =>
    have h1 := ((hA i hi).1 m2 e2).1
    rw [h1] at e
    have e3 := Option.some.inj e
    exact hB.1 i u hi hu (by rw [e2]; exact fun q => by cases q) (by rw [hs]; exact fun q => by cases q) (by omega)
set_option maxRecDepth 100000 in
set_option maxHeartbeats 4000000 in
theorem k_save (l : Launch) (G : Gx) (n : Nat) (ad : Nat → Nat) (sz : Nat) (I : Ic) (L : Lc) (R : Rc) (slot : Int32) (w : Nat → Nat) (K : Nat) (ro : Nat → Nat) (hc : Nat) (hi : Nat → CM) (sv : Nat → Option CM) (pn : Nat) (ch : Nat → Nat) (hI0 : InvA n I L R ((w, K, ro), hc, hi, sv, pn, ch)) : Met l yX5_save (Cond.code yX5_save cX5_save 2 (some .int) :: GW) ({ frames := 6, cells := 3, slots := 67, locals := 216 } : Room) (qPre G n ad sz I L R [.ref (ad 0), .int (slot)]) (qI2 G (qA n ad sz) (fun z u => PR n ad I L R (aSave ((w, K, ro), hc, hi, sv, pn, ch) slot) z u)) 3 67 (qA n ad sz) := by
  refine q_met (by decide) (Nat.le_of_ble_eq_true rfl) ?_
  intro p_ e_ s m_ below meth c_ hC hr hlk0 hin hsz hW ls hl
  subst hsz
  have hC : CallFix p_ m_ c_ cX5_save 2 s ([.ref (ad 0), .int (slot)] : List Value).toArray GW "CoinRows" := hC
  have hx := hC.1
  have hb := hC.2.1
  have hn : 83 ≤ n := hI0.1
  have hlk : LkOK n R := hI0.2.1
  have hM : MdI I w K ro := hI0.2.2.1
  have hSI : SI L := hI0.2.2.2.1
  have hPd : PadI I pn ch := hI0.2.2.2.2.1
  have hHi : HiA I R hc hi := hI0.2.2.2.2.2.1
  have hSv : SvA n I R sv := hI0.2.2.2.2.2.2
  have hh1 := hHi.1
  have hh6 := hHi.2.1
  have hp80 := hPd.2.1
  have hk6 : K ≤ 6 := hM.2.2.2.1
  have hw3 : ∀ i, w i ≤ 3 := hM.2.2.2.2.1.1
  have hr4 : ∀ j, ro j < 4 := hM.2.2.2.2.2
  have hSv' := hSv
  obtain ⟨sm, hsA, hsB⟩ := hSv'
  have hcl : Cl n R := hsB.2.1
  obtain ⟨cc_, hcc⟩ := hsB.2.2
  have hmn : mdl n := by rw [hcc]; exact mdl_s cc_
  have hl : lv_has ls 2 [(0, .ref (ad 0)), (1, .int (slot))] := hl
  refine lv_iload_n hx hb dX5_save_0 rfl (lv_at hl 1 rfl) ?_
  refine lv_if_lt (tgt := 9) hx hb dX5_save_1 (by decide) (fun c_1 => ?_) (fun c_1 => ?_)
  ·
    have hv_ : rng slot 2 = none := rng_none.mpr (by simp only [Int32.lt_iff_toInt_lt, Int32.le_iff_toInt_le, ← Int32.toInt_inj, nT0, nT1, nT2, nT3, nT4, nT5, nT6, nT7, nT8, nT9, nT10, nT33, nT36, nT42, nT58, nT80, nT126, nT255, i_m1, i_m2, Int32.toInt_zero, Int32.toInt_one] at c_1; omega)
    refine lv_bipush (v := -2) hx hb dX5_save_9 (by decide) ?_
    refine q_more (c2 := 3) (s2 := 67) (Nat.le_of_ble_eq_true rfl) (Nat.le_of_ble_eq_true rfl) ?_
    exact q_iret2 hC hW hr hlk0 (PR_i (a' := (-2, ((w, K, ro), hc, hi, sv, pn, ch))) (by simp only [aSave, hv_]) ⟨rfl, PA_0 hI0⟩) dX5_save_11
  ·
    refine lv_iload_n hx hb dX5_save_4 rfl (lv_at hl 1 rfl) ?_
    refine q_ic 2 hx hb dX5_save_5 (by decide) ?_
    refine lv_icmp_lt (tgt := 12) hx hb dX5_save_6 (by decide) (fun c_6 => ?_) (fun c_6 => ?_)
    ·
      obtain ⟨u_, hu_, rfl⟩ := rng_ex (N := 2) (x := slot) (by decide) (by simp only [Int32.lt_iff_toInt_lt, Int32.le_iff_toInt_le, ← Int32.toInt_inj, nT0, nT1, nT2, nT3, nT4, nT5, nT6, nT7, nT8, nT9, nT10, nT33, nT36, nT42, nT58, nT80, nT126, nT255, i_m1, i_m2, Int32.toInt_zero, Int32.toInt_one] at c_1 c_6; omega) (by simp only [Int32.lt_iff_toInt_lt, Int32.le_iff_toInt_le, ← Int32.toInt_inj, nT0, nT1, nT2, nT3, nT4, nT5, nT6, nT7, nT8, nT9, nT10, nT33, nT36, nT42, nT58, nT80, nT126, nT255, i_m1, i_m2, Int32.toInt_zero, Int32.toInt_one] at c_1 c_6; omega)
      rcases hsv : sv u_ with _ | m_
      ·
        have hRN := (hsA u_ hu_).2 hsv
        refine lv_aload_n hx hb dX5_save_12 rfl (lv_at hl 0 rfl) ?_
        refine g_5_3 (x := 0) (y := 5) hC hW (by omega) kd_0 gw_133 (hlk 0 3 5 (by omega) rfl) dX5_save_13 ?_
        refine lv_iload_n hx hb dX5_save_16 rfl (lv_at hl 1 rfl) ?_
        refine q_aald4N (x := 5) (i := u_) hC hW (by omega) kd_5 (by omega) hRN dX5_save_17 ?_
        refine lv_ifnonnullN hx hb dX5_save_18 ?_
        refine lv_aload_n hx hb dX5_save_21 rfl (lv_at hl 0 rfl) ?_
        refine g_5_3 (x := 0) (y := 5) hC hW (by omega) kd_0 gw_133 (hlk 0 3 5 (by omega) rfl) dX5_save_22 ?_
        refine lv_iload_n hx hb dX5_save_25 rfl (lv_at hl 1 rfl) ?_
        refine q_nwo0 hC hW hcl hmn.1 gw_19 (Nat.le_of_ble_eq_true rfl) (Nat.le_of_ble_eq_true rfl) dX5_save_26 (fun ad_26 H hag_26 hcl_26 hW => ?_)
        have hl : lv_has ls 2 [(0, .ref (ad_26 0)), (1, .int (nI (u_)))] := by rw [hag_26 0 (by omega)]; exact hl
        refine W.eq (g2 := F0 m_ 29 ls [.ref (ad_26 (n)), .int (nI (u_)), .ref (ad_26 5)]) (by rw [hag_26 5 (by omega)]) ?_
        refine lv_dup hx hb dX5_save_29 rfl ?_
        refine q_kV2 (q_rIN (As := []) (rest := [.ref (ad_26 (n)), .int (nI (u_)), .ref (ad_26 5)]) (x := n) hC hW mw_X0_init hW.2.2.2.2.2.1 (k_initM l G n ad_26 H.size (zr I n 0) (zr L n 0) (zr R n none) hmn hcl_26) ⟨rfl, rfl⟩ ⟨Nat.le_of_ble_eq_true rfl, Nat.le_of_ble_eq_true rfl⟩ ⟨(Nat.le_of_ble_eq_true rfl), (Nat.le_of_ble_eq_true rfl)⟩ hl.1 rfl rfl (Nat.le_of_ble_eq_true rfl) dX5_save_30) hW (fun n_30 ad_30 I_30 L_30 R_30 H locs hp hW => ?_)
        have hp : NewF n (n + 3) ad_26 (zr I n 0) (zr L n 0) (zr R n none) n_30 ad_30 I_30 L_30 R_30 ∧ (∀ i_, I_30 (n + 1) i_ = nI 0) ∧ I_30 n 2 = nI 0 := hp
        obtain ⟨⟨rfl, hag_30, hNf_30, hcl_30, hNl_30⟩, hNw_30, hNk_30⟩ := hp
        have hl : lv_has ls 2 [(0, .ref (ad_30 0)), (1, .int (nI (u_)))] := by rw [hag_30 0 (by omega)]; exact hl
        refine W.eq (g2 := F0 m_ 33 ls [.ref (ad_30 (n)), .int (nI (u_)), .ref (ad_30 5)]) (by rw [hag_30 5 (by omega), hag_30 n (by omega)]) ?_
        have hlk2 : LkOK (n + 3) R_30 := LkOK_new hlk (fun a ha => by rw [(hNf_30 a ha).2.2, zr_ne (by omega)]) hNl_30
        refine q_aast4 (x := 5) (i := u_) (y := n) hC hW (by omega) kd_5 (by omega) (by omega) hmn.1 dX5_save_33 (fun H locs hW => ?_)
        have hcl_33 := Cl_p (a := 5) (i := u_) (b := n) hcl_30 (by omega)
        have hlk3 : LkOK (n + 3) (up2 R_30 5 u_ (some n)) := LkOK_4 hlk2 (fun a _ ha => up2_ne ha)
        refine lv_aload_n hx hb dX5_save_34 rfl (lv_at hl 0 rfl) ?_
        refine g_5_3 (x := 0) (y := 5) hC hW (by omega) kd_0 gw_133 (hlk3 0 3 5 (by omega) rfl) dX5_save_35 ?_
        refine lv_iload_n hx hb dX5_save_38 rfl (lv_at hl 1 rfl) ?_
        refine q_aald4 (x := 5) (i := u_) (y := n) hC hW (by omega) kd_5 (by omega) (by rw [up2_at, if_pos ⟨rfl, rfl⟩]) dX5_save_39 ?_
        refine lv_aload_n hx hb dX5_save_40 rfl (lv_at hl 0 rfl) ?_
        refine g_5_0 (x := 0) (y := 1) hC hW (by omega) kd_0 gw_130 (hlk3 0 0 1 (by omega) rfl) dX5_save_41 ?_
        refine q_kV1 (q_rV (As := [.ref (ad_30 1)]) (rest := []) (x := n) hC hW mw_X0_copyFrom gw_178 (k_copyFrom l G (n + 3) ad_30 H.size I_30 L_30 (up2 R_30 5 u_ (some n)) (n) 1 hlk3 (by omega) (by omega) hmn mdl_1) (by omega) (ct_o0 hmn.1) rfl ⟨rfl, rfl⟩ ⟨Nat.le_of_ble_eq_true rfl, Nat.le_of_ble_eq_true rfl⟩ ⟨(Nat.le_of_ble_eq_true rfl), (Nat.le_of_ble_eq_true rfl)⟩ hl.1 rfl rfl (Nat.le_of_ble_eq_true rfl) dX5_save_44) hW (fun I_44 L_44 H locs hp hW => ?_)
        obtain ⟨rfl, rfl⟩ := hp
        have hM30 : MdA I_30 1 (w, K, ro) := MdA_fr (m := (w, K, ro)) (x := 1) hM (by rw [(hNf_30 1 (by omega)).1, zr_ne (by omega)]) (by rw [(hNf_30 (1 + 1) (by omega)).1, zr_ne (by omega)]) (by rw [(hNf_30 (1 + 2) (by omega)).1, zr_ne (by omega)])
        have hmd : MdA (cpM I_30 n 1) (83 + 3 * cc_) (w, K, ro) := by rw [← hcc]; exact cpM_md (y := 1) hM30 (by omega)
        refine lv_aload_n hx hb dX5_save_47 rfl (lv_at hl 0 rfl) ?_
        refine g_5_0 (x := 0) (y := 1) hC hW (by omega) kd_0 gw_130 (hlk3 0 0 1 (by omega) rfl) dX5_save_48 ?_
        refine g_0_2 (x := 1) hC hW (by omega) kd_1 gw_34 dX5_save_51 ?_
        refine q_top (v2 := .int (nI (K))) (congrArg _ ((congrFun (cpM_ne (by omega) (by omega) (by omega)) 2).trans hM30.2.1)) ?_
        refine q_more (c2 := 3) (s2 := 67) (Nat.le_of_ble_eq_true rfl) (Nat.le_of_ble_eq_true rfl) ?_
        exact q_iret2 hC hW hr hlk0 (PR_i (a' := (nI K, ((w, K, ro), hc, hi, (fun i => if i = u_ then some (w, K, ro) else sv i), pn, ch))) (by simp only [aSave, rng_nI hu_ (by decide)]) ⟨rfl, save_PA (cx := cc_) hI0 (by omega) (by omega) ⟨cc_ + 1, by omega⟩ (fun k hk => (hag_30 k (by omega)).trans (hag_26 k (by omega))) (fun a ha h0 h1 h2 => by rw [cpM_ne (by omega) (by omega) (by omega), (hNf_30 a ha).1, zr_ne (by omega)]) (fun a ha => by rw [(hNf_30 a ha).2.1, zr_ne (by omega)]) (fun a ha h5 => by rw [up2_ne h5, (hNf_30 a ha).2.2, zr_ne (by omega)]) (fun i => by rw [up2_at, ← hcc]; by_cases e : i = u_; (rw [if_pos ⟨rfl, e⟩, if_pos e]); rw [if_neg (fun q => e q.2), if_neg e, (hNf_30 5 (by omega)).2.2, zr_ne (by omega)]) hmd hlk3 hcl_33 (fun i hi2 hiu e => by have := hcl 5 i _ (by omega) e; omega)⟩) dX5_save_54
      ·
        obtain ⟨hRS, hsn, hsm⟩ := (hsA u_ hu_).1 m_ hsv
        refine lv_aload_n hx hb dX5_save_12 rfl (lv_at hl 0 rfl) ?_
        refine g_5_3 (x := 0) (y := 5) hC hW (by omega) kd_0 gw_133 (hlk 0 3 5 (by omega) rfl) dX5_save_13 ?_
        refine lv_iload_n hx hb dX5_save_16 rfl (lv_at hl 1 rfl) ?_
        refine q_aald4 (x := 5) (i := u_) (y := 83 + 3 * sm u_) hC hW (by omega) kd_5 (by omega) hRS dX5_save_17 ?_
        refine lv_ifnonnull (tgt := 34) hx hb dX5_save_18 (by decide) ?_
        refine lv_aload_n hx hb dX5_save_34 rfl (lv_at hl 0 rfl) ?_
        refine g_5_3 (x := 0) (y := 5) hC hW (by omega) kd_0 gw_133 (hlk 0 3 5 (by omega) rfl) dX5_save_35 ?_
        refine lv_iload_n hx hb dX5_save_38 rfl (lv_at hl 1 rfl) ?_
        refine q_aald4 (x := 5) (i := u_) (y := 83 + 3 * sm u_) hC hW (by omega) kd_5 (by omega) hRS dX5_save_39 ?_
        refine lv_aload_n hx hb dX5_save_40 rfl (lv_at hl 0 rfl) ?_
        refine g_5_0 (x := 0) (y := 1) hC hW (by omega) kd_0 gw_130 (hlk 0 0 1 (by omega) rfl) dX5_save_41 ?_
        refine q_kV1 (q_rV (As := [.ref (ad 1)]) (rest := []) (x := (83 + 3 * sm u_)) hC hW mw_X0_copyFrom gw_178 (k_copyFrom l G n ad s.heap.size I L R (83 + 3 * sm u_) 1 hlk (by omega) (by omega) (mdl_s (sm u_)) mdl_1) (by omega) (ct_o0 (mdl_s (sm u_)).1) rfl ⟨rfl, rfl⟩ ⟨Nat.le_of_ble_eq_true rfl, Nat.le_of_ble_eq_true rfl⟩ ⟨(Nat.le_of_ble_eq_true rfl), (Nat.le_of_ble_eq_true rfl)⟩ hl.1 rfl rfl (Nat.le_of_ble_eq_true rfl) dX5_save_44) hW (fun I_44 L_44 H locs hp hW => ?_)
        obtain ⟨rfl, rfl⟩ := hp
        have hmd : MdA (cpM I (83 + 3 * sm u_) 1) (83 + 3 * sm u_) (w, K, ro) := cpM_md (y := 1) hM (by omega)
        refine lv_aload_n hx hb dX5_save_47 rfl (lv_at hl 0 rfl) ?_
        refine g_5_0 (x := 0) (y := 1) hC hW (by omega) kd_0 gw_130 (hlk 0 0 1 (by omega) rfl) dX5_save_48 ?_
        refine g_0_2 (x := 1) hC hW (by omega) kd_1 gw_34 dX5_save_51 ?_
        refine q_top (v2 := .int (nI (K))) (congrArg _ ((congrFun (cpM_ne (by omega) (by omega) (by omega)) 2).trans hM.2.1)) ?_
        refine q_more (c2 := 3) (s2 := 67) (Nat.le_of_ble_eq_true rfl) (Nat.le_of_ble_eq_true rfl) ?_
        exact q_iret2 hC hW hr hlk0 (PR_i (a' := (nI K, ((w, K, ro), hc, hi, (fun i => if i = u_ then some (w, K, ro) else sv i), pn, ch))) (by simp only [aSave, rng_nI hu_ (by decide)]) ⟨rfl, save_PA (cx := sm u_) hI0 hsn (Nat.le_refl n) ⟨cc_, hcc⟩ (fun _ _ => rfl) (fun a _ h0 h1 h2 => cpM_ne h0 h1 h2) (fun _ _ => rfl) (fun _ _ _ => rfl) (fun i => by by_cases e : i = u_; (rw [if_pos e, e]; exact hRS); rw [if_neg e]) hmd hlk hcl (fun i hi2 hiu e => hiu (sl_inj hsA hsB hi2 hu_ hsv e))⟩) dX5_save_54
    ·
      have hv_ : rng slot 2 = none := rng_none.mpr (by simp only [Int32.lt_iff_toInt_lt, Int32.le_iff_toInt_le, ← Int32.toInt_inj, nT0, nT1, nT2, nT3, nT4, nT5, nT6, nT7, nT8, nT9, nT10, nT33, nT36, nT42, nT58, nT80, nT126, nT255, i_m1, i_m2, Int32.toInt_zero, Int32.toInt_one] at c_1 c_6; omega)
      refine lv_bipush (v := -2) hx hb dX5_save_9 (by decide) ?_
      refine q_more (c2 := 3) (s2 := 67) (Nat.le_of_ble_eq_true rfl) (Nat.le_of_ble_eq_true rfl) ?_
      exact q_iret2 hC hW hr hlk0 (PR_i (a' := (-2, ((w, K, ro), hc, hi, sv, pn, ch))) (by simp only [aSave, hv_]) ⟨rfl, PA_0 hI0⟩) dX5_save_11
