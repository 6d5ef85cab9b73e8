theorem kd_0 : kd 0 = (15, 8) := by decide +kernel
theorem kd_1 : kd 1 = (10, 3) := by decide +kernel
theorem kd_2 : kd 2 = (0, 58) := by decide +kernel
theorem kd_3 : kd 3 = (0, 6) := by decide +kernel
theorem kd_4 : kd 4 = (4, 6) := by decide +kernel
theorem kd_5 : kd 5 = (4, 2) := by decide +kernel
theorem kd_6 : kd 6 = (11, 4) := by decide +kernel
theorem kd_7 : kd 7 = (2, 80) := by decide +kernel
theorem kd_8 : kd 8 = (12, 5) := by decide +kernel
theorem kd_9 : kd 9 = (5, 7) := by decide +kernel
theorem kd_10 : kd 10 = (1, 7) := by decide +kernel
theorem kd_11 : kd 11 = (1, 7) := by decide +kernel
theorem kd_12 : kd 12 = (1, 7) := by decide +kernel
theorem kd_13 : kd 13 = (1, 7) := by decide +kernel
theorem kd_14 : kd 14 = (1, 7) := by decide +kernel
theorem kd_15 : kd 15 = (1, 7) := by decide +kernel
theorem kd_16 : kd 16 = (1, 7) := by decide +kernel
theorem kd_17 : kd 17 = (5, 7) := by decide +kernel
theorem kd_18 : kd 18 = (1, 4) := by decide +kernel
theorem kd_19 : kd 19 = (1, 4) := by decide +kernel
theorem kd_20 : kd 20 = (1, 4) := by decide +kernel
theorem kd_21 : kd 21 = (1, 4) := by decide +kernel
theorem kd_22 : kd 22 = (1, 4) := by decide +kernel
theorem kd_23 : kd 23 = (1, 4) := by decide +kernel
theorem kd_24 : kd 24 = (1, 4) := by decide +kernel
theorem kd_25 : kd 25 = (5, 7) := by decide +kernel
theorem kd_26 : kd 26 = (1, 7) := by decide +kernel
theorem kd_27 : kd 27 = (1, 7) := by decide +kernel
theorem kd_28 : kd 28 = (1, 7) := by decide +kernel
theorem kd_29 : kd 29 = (1, 7) := by decide +kernel
theorem kd_30 : kd 30 = (1, 7) := by decide +kernel
theorem kd_31 : kd 31 = (1, 7) := by decide +kernel
theorem kd_32 : kd 32 = (1, 7) := by decide +kernel
theorem kd_33 : kd 33 = (5, 7) := by decide +kernel
theorem kd_34 : kd 34 = (1, 7) := by decide +kernel
theorem kd_35 : kd 35 = (1, 7) := by decide +kernel
theorem kd_36 : kd 36 = (1, 7) := by decide +kernel
theorem kd_37 : kd 37 = (1, 7) := by decide +kernel
theorem kd_38 : kd 38 = (1, 7) := by decide +kernel
theorem kd_39 : kd 39 = (1, 7) := by decide +kernel
theorem kd_40 : kd 40 = (1, 7) := by decide +kernel
theorem kd_41 : kd 41 = (6, 7) := by decide +kernel
theorem kd_42 : kd 42 = (0, 7) := by decide +kernel
theorem kd_43 : kd 43 = (0, 7) := by decide +kernel
theorem kd_44 : kd 44 = (0, 7) := by decide +kernel
theorem kd_45 : kd 45 = (0, 7) := by decide +kernel
theorem kd_46 : kd 46 = (0, 7) := by decide +kernel
theorem kd_47 : kd 47 = (0, 7) := by decide +kernel
theorem kd_48 : kd 48 = (0, 7) := by decide +kernel
theorem kd_49 : kd 49 = (14, 4) := by decide +kernel
theorem kd_50 : kd 50 = (0, 18) := by decide +kernel
theorem kd_51 : kd 51 = (13, 1) := by decide +kernel
theorem kd_52 : kd 52 = (1, 58) := by decide +kernel
theorem kd_53 : kd 53 = (10, 3) := by decide +kernel
theorem kd_54 : kd 54 = (0, 58) := by decide +kernel
theorem kd_55 : kd 55 = (0, 6) := by decide +kernel
theorem kd_56 : kd 56 = (10, 3) := by decide +kernel
theorem kd_57 : kd 57 = (0, 58) := by decide +kernel
theorem kd_58 : kd 58 = (0, 6) := by decide +kernel
theorem kd_59 : kd 59 = (10, 3) := by decide +kernel
theorem kd_60 : kd 60 = (0, 58) := by decide +kernel
theorem kd_61 : kd 61 = (0, 6) := by decide +kernel
theorem kd_62 : kd 62 = (10, 3) := by decide +kernel
theorem kd_63 : kd 63 = (0, 58) := by decide +kernel
theorem kd_64 : kd 64 = (0, 6) := by decide +kernel
theorem kd_65 : kd 65 = (10, 3) := by decide +kernel
theorem kd_66 : kd 66 = (0, 58) := by decide +kernel
theorem kd_67 : kd 67 = (0, 6) := by decide +kernel
theorem kd_68 : kd 68 = (10, 3) := by decide +kernel
theorem kd_69 : kd 69 = (0, 58) := by decide +kernel
theorem kd_70 : kd 70 = (0, 6) := by decide +kernel
theorem kd_71 : kd 71 = (16, 16) := by decide +kernel
theorem kd_72 : kd 72 = (0, 70) := by decide +kernel
theorem kd_73 : kd 73 = (0, 420) := by decide +kernel
theorem kd_74 : kd 74 = (0, 140) := by decide +kernel
theorem kd_75 : kd 75 = (3, 2) := by decide +kernel
theorem kd_76 : kd 76 = (0, 80) := by decide +kernel
theorem kd_77 : kd 77 = (1, 42) := by decide +kernel
theorem kd_78 : kd 78 = (1, 42) := by decide +kernel
theorem kd_79 : kd 79 = (0, 42) := by decide +kernel
theorem kd_80 : kd 80 = (1, 42) := by decide +kernel
theorem kd_81 : kd 81 = (0, 20) := by decide +kernel
theorem kd_82 : kd 82 = (1, 58) := by decide +kernel
theorem kd_r10 {t : Nat} (h : t < 7) : kd (10 + t) = (1, 7) := (show ∀ i, i < 7 → kd (10 + i) = (1, 7) by decide +kernel) t h
theorem kd_r18 {t : Nat} (h : t < 7) : kd (18 + t) = (1, 4) := (show ∀ i, i < 7 → kd (18 + i) = (1, 4) by decide +kernel) t h
theorem kd_r26 {t : Nat} (h : t < 7) : kd (26 + t) = (1, 7) := (show ∀ i, i < 7 → kd (26 + i) = (1, 7) by decide +kernel) t h
theorem kd_r34 {t : Nat} (h : t < 7) : kd (34 + t) = (1, 7) := (show ∀ i, i < 7 → kd (34 + i) = (1, 7) by decide +kernel) t h
theorem kd_r42 {t : Nat} (h : t < 7) : kd (42 + t) = (0, 7) := (show ∀ i, i < 7 → kd (42 + i) = (0, 7) by decide +kernel) t h
def mdl (x : Nat) : Prop := kd x = (10, 3) ∧ kd (x + 1) = (0, 58) ∧ kd (x + 2) = (0, 6)
theorem mdl_1 : mdl 1 := ⟨by decide +kernel, by decide +kernel, by decide +kernel⟩
theorem mdl_h {i : Nat} (h : i < 6) : mdl (53 + 3 * i) := ⟨(show ∀ i, i < 6 → kd (53 + 3 * i) = (10, 3) by decide +kernel) i h, (show ∀ i, i < 6 → kd (53 + 3 * i + 1) = (0, 58) by decide +kernel) i h, (show ∀ i, i < 6 → kd (53 + 3 * i + 2) = (0, 6) by decide +kernel) i h⟩
theorem mdl_s (i : Nat) : mdl (83 + 3 * i) := by
  refine ⟨?_, ?_, ?_⟩
  · unfold kd; rw [if_neg (by omega), if_pos (by omega)]
  · unfold kd; rw [if_neg (by omega), if_neg (by omega), if_pos (by omega)]
  · unfold kd; rw [if_neg (by omega), if_neg (by omega), if_neg (by omega)]
def lkf (a j : Nat) : Option Nat := match (kd a).1 with
  | 10 => if j < 2 then some (a + 1 + j) else none
  | 11 => if j = 0 then some (a + 1) else none
  | 12 => if j < 5 then some (a + 1 + 8 * j) else none
  | 13 => if j = 0 then some (a + 1) else none
  | 14 => if j = 0 then some (a + 1) else none
  | 15 => [some 1, some 4, none, some 5, some 6, some 8, some 49, some 51].getD j none
  | 16 => [some 72, some 73, none, some 74, some 75, some 76, none, some 77, some 78, some 79, some 80, some 81, none, none, some 82].getD j none
  | 5 => if j < 7 then some (a + 1 + j) else none
  | 6 => if j < 7 then some (a + 1 + j) else none
  | _ => none
def LkOK (n : Nat) (R : Rc) : Prop := ∀ a j y, a < n → lkf a j = some y → R a j = some y
theorem lk_m {n : Nat} {R : Rc} {x j : Nat} (h : LkOK n R) (hx : x < n) (hk : mdl x) (hj : j < 2) : R x j = some (x + 1 + j) := h x j _ hx (by unfold lkf; rw [hk.1]; simp [hj])
theorem lk_row9 {n : Nat} {R : Rc} {t : Nat} (h : LkOK n R) (hn : 9 < n) (ht : t < 7) : R 9 t = some (10 + t) := h 9 t _ hn (by unfold lkf; rw [kd_9]; simp [ht])
theorem lk_row17 {n : Nat} {R : Rc} {t : Nat} (h : LkOK n R) (hn : 17 < n) (ht : t < 7) : R 17 t = some (18 + t) := h 17 t _ hn (by unfold lkf; rw [kd_17]; simp [ht])
theorem lk_row25 {n : Nat} {R : Rc} {t : Nat} (h : LkOK n R) (hn : 25 < n) (ht : t < 7) : R 25 t = some (26 + t) := h 25 t _ hn (by unfold lkf; rw [kd_25]; simp [ht])
theorem lk_row33 {n : Nat} {R : Rc} {t : Nat} (h : LkOK n R) (hn : 33 < n) (ht : t < 7) : R 33 t = some (34 + t) := h 33 t _ hn (by unfold lkf; rw [kd_33]; simp [ht])
theorem lk_row41 {n : Nat} {R : Rc} {t : Nat} (h : LkOK n R) (hn : 41 < n) (ht : t < 7) : R 41 t = some (42 + t) := h 41 t _ hn (by unfold lkf; rw [kd_41]; simp [ht])
theorem mw_X5_init : mI yX5_init cX5_init 2 0 := ⟨⟨gw_14, gw_1, gw_15⟩, rfl, by decide +kernel⟩
theorem mw_X0_init : mI yX0_init cX0_init 1 0 := ⟨⟨gw_22, gw_2, gw_23⟩, rfl, by decide +kernel⟩
theorem mw_X1_init : mI yX1_init cX1_init 1 0 := ⟨⟨gw_49, gw_3, gw_50⟩, rfl, by decide +kernel⟩
theorem mw_X2_init : mI yX2_init cX2_init 1 0 := ⟨⟨gw_72, gw_4, gw_73⟩, rfl, by decide +kernel⟩
theorem mw_X4_init : mI yX4_init cX4_init 1 0 := ⟨⟨gw_103, gw_5, gw_104⟩, rfl, by decide +kernel⟩
theorem mw_X3_init : mI yX3_init cX3_init 1 0 := ⟨⟨gw_123, gw_6, gw_124⟩, rfl, by decide +kernel⟩
theorem mw_X5_give : mV yX5_give cX5_give 7 (some .int) "CoinRows" 4 := ⟨⟨gw_156, gw_157, gw_1, gw_158⟩, by decide +kernel⟩
theorem mw_X5_isKind : mS yX5_isKind cX5_isKind 1 (some .boolean) "CoinRows" 1 := ⟨⟨gw_160, gw_1, gw_161⟩, by decide +kernel⟩
theorem mw_X5_indexOf : mS yX5_indexOf cX5_indexOf 3 (some .int) "CoinRows" 3 := ⟨⟨gw_163, gw_1, gw_164⟩, by decide +kernel⟩
theorem mw_X5_isCoin : mS yX5_isCoin cX5_isCoin 1 (some .boolean) "CoinRows" 1 := ⟨⟨gw_166, gw_1, gw_167⟩, by decide +kernel⟩
theorem mw_X5_isLoud : mS yX5_isLoud cX5_isLoud 1 (some .boolean) "CoinRows" 1 := ⟨⟨gw_169, gw_1, gw_170⟩, by decide +kernel⟩
theorem mw_X5_isBarred : mS yX5_isBarred cX5_isBarred 2 (some .boolean) "CoinRows" 2 := ⟨⟨gw_172, gw_1, gw_173⟩, by decide +kernel⟩
theorem mw_X5_remember : mV yX5_remember cX5_remember 3 none "CoinRows" 0 := ⟨⟨gw_176, gs_0, gw_1, gw_177⟩, by decide +kernel⟩
theorem mw_X0_copyFrom : mV yX0_copyFrom cX0_copyFrom 2 none "CoinRows$Model" 1 := ⟨⟨gw_179, gw_180, gw_2, gw_181⟩, by decide +kernel⟩
theorem mw_X5_weight : mV yX5_weight cX5_weight 5 (some .int) "CoinRows" 3 := ⟨⟨gw_186, gw_187, gw_1, gw_188⟩, by decide +kernel⟩
theorem mw_X5_add : mV yX5_add cX5_add 2 (some .int) "CoinRows" 1 := ⟨⟨gw_190, gw_191, gw_1, gw_192⟩, by decide +kernel⟩
theorem mw_X0_append : mV yX0_append cX0_append 2 none "CoinRows$Model" 1 := ⟨⟨gw_194, gw_195, gw_2, gw_196⟩, by decide +kernel⟩
theorem mw_X5_cut : mV yX5_cut cX5_cut 1 (some .int) "CoinRows" 0 := ⟨⟨gw_198, gw_199, gw_1, gw_200⟩, by decide +kernel⟩
theorem mw_X5_letter : mV yX5_letter cX5_letter 2 (some .int) "CoinRows" 1 := ⟨⟨gw_202, gw_203, gw_1, gw_204⟩, by decide +kernel⟩
theorem mw_X0_hasPlace : mV yX0_hasPlace cX0_hasPlace 2 (some .boolean) "CoinRows$Model" 1 := ⟨⟨gw_206, gw_207, gw_2, gw_208⟩, by decide +kernel⟩
theorem mw_X5_train : mV yX5_train cX5_train 1 (some .int) "CoinRows" 0 := ⟨⟨gw_210, gw_211, gw_1, gw_212⟩, by decide +kernel⟩
theorem mw_X2_measure : mV yX2_measure cX2_measure 2 none "CoinRows$Sums" 1 := ⟨⟨gw_214, gw_215, gw_4, gw_216⟩, by decide +kernel⟩
theorem mw_X2_sumBeginnings : mV yX2_sumBeginnings cX2_sumBeginnings 4 none "CoinRows$Sums" 1 := ⟨⟨gw_219, gs_1, gw_4, gw_220⟩, by decide +kernel⟩
theorem mw_X2_arrive : mV yX2_arrive cX2_arrive 7 (some .long) "CoinRows$Sums" 3 := ⟨⟨gw_223, gs_2, gw_4, gw_224⟩, by decide +kernel⟩
theorem mw_X0_stepWeight : mV yX0_stepWeight cX0_stepWeight 3 (some .int) "CoinRows$Model" 2 := ⟨⟨gw_226, gw_227, gw_2, gw_228⟩, by decide +kernel⟩
theorem mw_X0_letterWeight : mV yX0_letterWeight cX0_letterWeight 3 (some .int) "CoinRows$Model" 2 := ⟨⟨gw_230, gw_231, gw_2, gw_232⟩, by decide +kernel⟩
theorem mw_X2_sumRests : mV yX2_sumRests cX2_sumRests 4 none "CoinRows$Sums" 1 := ⟨⟨gw_235, gs_3, gw_4, gw_236⟩, by decide +kernel⟩
theorem mw_X2_sumRestsBehind : mV yX2_sumRestsBehind cX2_sumRestsBehind 12 none "CoinRows$Sums" 3 := ⟨⟨gw_239, gs_4, gw_4, gw_240⟩, by decide +kernel⟩
theorem mw_X0_moveWeight : mV yX0_moveWeight cX0_moveWeight 4 (some .int) "CoinRows$Model" 3 := ⟨⟨gw_242, gw_243, gw_2, gw_244⟩, by decide +kernel⟩
theorem mw_X2_whole : mV yX2_whole cX2_whole 1 (some .long) "CoinRows$Sums" 0 := ⟨⟨gw_251, gw_252, gw_4, gw_253⟩, by decide +kernel⟩
theorem mw_X3_improve : mV yX3_improve cX3_improve 5 (some .int) "CoinRows$Trainer" 2 := ⟨⟨gw_255, gw_256, gw_6, gw_257⟩, by decide +kernel⟩
theorem mw_X2_ofStep : mV yX2_ofStep cX2_ofStep 8 (some .long) "CoinRows$Sums" 3 := ⟨⟨gw_259, gw_260, gw_4, gw_261⟩, by decide +kernel⟩
theorem mw_X2_ofLetter : mV yX2_ofLetter cX2_ofLetter 7 (some .long) "CoinRows$Sums" 3 := ⟨⟨gw_263, gw_264, gw_4, gw_265⟩, by decide +kernel⟩
theorem mw_X2_through : mV yX2_through cX2_through 3 (some .long) "CoinRows$Sums" 2 := ⟨⟨gw_267, gw_268, gw_4, gw_269⟩, by decide +kernel⟩
theorem mw_X3_improveGroup : mV yX3_improveGroup cX3_improveGroup 9 (some .int) "CoinRows$Trainer" 3 := ⟨⟨gw_272, gs_5, gw_6, gw_273⟩, by decide +kernel⟩
theorem mw_X5_put : mV yX5_put cX5_put 4 (some .int) "CoinRows" 1 := ⟨⟨gw_278, gw_279, gw_1, gw_280⟩, by decide +kernel⟩
theorem mw_X1_countSigns : mS yX1_countSigns cX1_countSigns 5 (some .int) "CoinRows$Pad" 1 := ⟨⟨gw_282, gw_3, gw_283⟩, by decide +kernel⟩
theorem mw_X1_append : mV yX1_append cX1_append 5 none "CoinRows$Pad" 2 := ⟨⟨gw_288, gw_289, gw_3, gw_290⟩, by decide +kernel⟩
theorem mw_X5_wipe : mV yX5_wipe cX5_wipe 1 (some .int) "CoinRows" 0 := ⟨⟨gw_292, gw_293, gw_1, gw_294⟩, by decide +kernel⟩
theorem mw_X1_clear : mV yX1_clear cX1_clear 2 (some .int) "CoinRows$Pad" 0 := ⟨⟨gw_296, gw_297, gw_3, gw_298⟩, by decide +kernel⟩
theorem mw_X5_fault : mV yX5_fault cX5_fault 1 (some .int) "CoinRows" 0 := ⟨⟨gw_300, gw_301, gw_1, gw_302⟩, by decide +kernel⟩
theorem mw_X1_read : mV yX1_read cX1_read 2 (some .boolean) "CoinRows$Pad" 1 := ⟨⟨gw_304, gw_305, gw_3, gw_306⟩, by decide +kernel⟩
theorem mw_X1_readPart : mV yX1_readPart cX1_readPart 3 (some .boolean) "CoinRows$Pad" 1 := ⟨⟨gw_309, gs_6, gw_3, gw_310⟩, by decide +kernel⟩
theorem mw_X1_accept : mV yX1_accept cX1_accept 3 (some .boolean) "CoinRows$Pad" 2 := ⟨⟨gw_313, gs_7, gw_3, gw_314⟩, by decide +kernel⟩
theorem mw_X1_readBegin : mV yX1_readBegin cX1_readBegin 2 (some .boolean) "CoinRows$Pad" 1 := ⟨⟨gw_317, gs_8, gw_3, gw_318⟩, by decide +kernel⟩
theorem mw_X1_latest : mV yX1_latest cX1_latest 1 (some .int) "CoinRows$Pad" 0 := ⟨⟨gw_321, gs_9, gw_3, gw_322⟩, by decide +kernel⟩
theorem mw_X1_readWeight : mV yX1_readWeight cX1_readWeight 4 (some .boolean) "CoinRows$Pad" 3 := ⟨⟨gw_325, gs_10, gw_3, gw_326⟩, by decide +kernel⟩
theorem mw_X1_readRow : mV yX1_readRow cX1_readRow 3 (some .boolean) "CoinRows$Pad" 1 := ⟨⟨gw_329, gs_11, gw_3, gw_330⟩, by decide +kernel⟩
theorem mw_X1_readStep : mV yX1_readStep cX1_readStep 4 (some .boolean) "CoinRows$Pad" 2 := ⟨⟨gw_334, gs_12, gw_3, gw_335⟩, by decide +kernel⟩
theorem mw_X1_readLetter : mV yX1_readLetter cX1_readLetter 3 (some .boolean) "CoinRows$Pad" 2 := ⟨⟨gw_339, gs_13, gw_3, gw_340⟩, by decide +kernel⟩
theorem mw_X5_load : mV yX5_load cX5_load 1 (some .int) "CoinRows" 0 := ⟨⟨gw_342, gw_343, gw_1, gw_344⟩, by decide +kernel⟩
theorem mw_X5_total : mV yX5_total cX5_total 1 (some .long) "CoinRows" 0 := ⟨⟨gw_346, gw_347, gw_1, gw_348⟩, by decide +kernel⟩
theorem mw_X5_forward : mV yX5_forward cX5_forward 3 (some .long) "CoinRows" 2 := ⟨⟨gw_350, gw_351, gw_1, gw_352⟩, by decide +kernel⟩
theorem mw_X5_backward : mV yX5_backward cX5_backward 3 (some .long) "CoinRows" 2 := ⟨⟨gw_355, gw_356, gw_1, gw_357⟩, by decide +kernel⟩
theorem mw_X5_ways : mV yX5_ways cX5_ways 1 (some .int) "CoinRows" 0 := ⟨⟨gw_359, gw_360, gw_1, gw_361⟩, by decide +kernel⟩
theorem mw_X2_number : mV yX2_number cX2_number 1 (some .int) "CoinRows$Sums" 0 := ⟨⟨gw_363, gw_364, gw_4, gw_365⟩, by decide +kernel⟩
theorem mw_X5_way : mV yX5_way cX5_way 3 (some .int) "CoinRows" 2 := ⟨⟨gw_367, gw_368, gw_1, gw_369⟩, by decide +kernel⟩
theorem mw_X4_follow : mV yX4_follow cX4_follow 8 none "CoinRows$Walk" 3 := ⟨⟨gw_371, gw_372, gw_5, gw_373⟩, by decide +kernel⟩
theorem mw_X4_chooseByNumber : mV yX4_chooseByNumber cX4_chooseByNumber 8 (some .int) "CoinRows$Walk" 5 := ⟨⟨gw_376, gs_14, gw_5, gw_377⟩, by decide +kernel⟩
theorem mw_X4_restsThrough : mS yX4_restsThrough cX4_restsThrough 6 (some .int) "CoinRows$Walk" 5 := ⟨⟨gw_379, gw_5, gw_380⟩, by decide +kernel⟩
theorem mw_X4_tell : mV yX4_tell cX4_tell 2 (some .int) "CoinRows$Walk" 1 := ⟨⟨gw_383, gw_384, gw_5, gw_385⟩, by decide +kernel⟩
theorem mw_X5_weighs : mV yX5_weighs cX5_weighs 2 (some .long) "CoinRows" 1 := ⟨⟨gw_387, gw_388, gw_1, gw_389⟩, by decide +kernel⟩
theorem mw_X5_likeliest : mV yX5_likeliest cX5_likeliest 3 (some .int) "CoinRows" 1 := ⟨⟨gw_391, gw_392, gw_1, gw_393⟩, by decide +kernel⟩
theorem mw_X4_findBest : mV yX4_findBest cX4_findBest 7 (some .int) "CoinRows$Walk" 2 := ⟨⟨gw_395, gw_396, gw_5, gw_397⟩, by decide +kernel⟩
theorem mw_X4_chooseBest : mV yX4_chooseBest cX4_chooseBest 10 (some .int) "CoinRows$Walk" 4 := ⟨⟨gw_400, gs_15, gw_5, gw_401⟩, by decide +kernel⟩
theorem mw_X5_odds : mV yX5_odds cX5_odds 4 (some .long) "CoinRows" 3 := ⟨⟨gw_403, gw_404, gw_1, gw_405⟩, by decide +kernel⟩
theorem mw_X5_isPart : mS yX5_isPart cX5_isPart 1 (some .boolean) "CoinRows" 1 := ⟨⟨gw_407, gw_1, gw_408⟩, by decide +kernel⟩
theorem mw_X5_inLowestTerms : mS yX5_inLowestTerms cX5_inLowestTerms 7 (some .long) "CoinRows" 3 := ⟨⟨gw_413, gw_1, gw_414⟩, by decide +kernel⟩
theorem mw_X5_commonDivisor : mS yX5_commonDivisor cX5_commonDivisor 11 (some .long) "CoinRows" 2 := ⟨⟨gw_416, gw_1, gw_417⟩, by decide +kernel⟩
theorem mw_X5_likelyAt : mV yX5_likelyAt cX5_likelyAt 4 (some .int) "CoinRows" 1 := ⟨⟨gw_419, gw_420, gw_1, gw_421⟩, by decide +kernel⟩
theorem mw_X5_expected : mV yX5_expected cX5_expected 7 (some .long) "CoinRows" 4 := ⟨⟨gw_423, gw_424, gw_1, gw_425⟩, by decide +kernel⟩
theorem mw_X5_shareBits : mV yX5_shareBits cX5_shareBits 3 (some .int) "CoinRows" 0 := ⟨⟨gw_429, gw_430, gw_1, gw_431⟩, by decide +kernel⟩
theorem mw_X2_greatest : mV yX2_greatest cX2_greatest 1 (some .long) "CoinRows$Sums" 0 := ⟨⟨gw_433, gw_434, gw_4, gw_435⟩, by decide +kernel⟩
theorem mw_X5_bitsOf : mS yX5_bitsOf cX5_bitsOf 4 (some .int) "CoinRows" 1 := ⟨⟨gw_437, gw_1, gw_438⟩, by decide +kernel⟩
theorem mw_X5_next : mV yX5_next cX5_next 8 (some .long) "CoinRows" 1 := ⟨⟨gw_441, gw_442, gw_1, gw_443⟩, by decide +kernel⟩
theorem mw_X2_wholeIfNext : mV yX2_wholeIfNext cX2_wholeIfNext 6 (some .long) "CoinRows$Sums" 2 := ⟨⟨gw_445, gw_446, gw_4, gw_447⟩, by decide +kernel⟩
theorem mw_X5_slip : mV yX5_slip cX5_slip 10 (some .long) "CoinRows" 1 := ⟨⟨gw_450, gw_451, gw_1, gw_452⟩, by decide +kernel⟩
theorem mw_X2_wholeIfChanged : mV yX2_wholeIfChanged cX2_wholeIfChanged 7 (some .long) "CoinRows$Sums" 3 := ⟨⟨gw_454, gw_455, gw_4, gw_456⟩, by decide +kernel⟩
theorem mw_X5_count : mV yX5_count cX5_count 2 (some .int) "CoinRows" 1 := ⟨⟨gw_458, gw_459, gw_1, gw_460⟩, by decide +kernel⟩
theorem mw_X0_countWeights : mV yX0_countWeights cX0_countWeights 3 (some .int) "CoinRows$Model" 0 := ⟨⟨gw_462, gw_463, gw_2, gw_464⟩, by decide +kernel⟩
theorem mw_X5_undo : mV yX5_undo cX5_undo 1 (some .int) "CoinRows" 0 := ⟨⟨gw_466, gw_467, gw_1, gw_468⟩, by decide +kernel⟩
theorem mw_X5_save : mV yX5_save cX5_save 2 (some .int) "CoinRows" 1 := ⟨⟨gw_470, gw_471, gw_1, gw_472⟩, by decide +kernel⟩
theorem mw_X5_restore : mV yX5_restore cX5_restore 2 (some .int) "CoinRows" 1 := ⟨⟨gw_474, gw_475, gw_1, gw_476⟩, by decide +kernel⟩
theorem mw_X6_init : mI yX6_init cX6_init 2 0 := ⟨⟨gw_480, gw_7, gw_481⟩, rfl, by decide +kernel⟩
theorem mw_X6_give : mV yX6_give cX6_give 7 (some .int) "CoinRowsModel" 4 := ⟨⟨gw_534, gw_535, gw_7, gw_536⟩, by decide +kernel⟩
theorem mw_X6_in : mS yX6_in cX6_in 3 (some .boolean) "CoinRowsModel" 3 := ⟨⟨gw_538, gw_7, gw_539⟩, by decide +kernel⟩
theorem mw_X6_placeOf : mS yX6_placeOf cX6_placeOf 3 (some .int) "CoinRowsModel" 3 := ⟨⟨gw_541, gw_7, gw_542⟩, by decide +kernel⟩
theorem mw_X6_isNought : mS yX6_isNought cX6_isNought 2 (some .boolean) "CoinRowsModel" 2 := ⟨⟨gw_544, gw_7, gw_545⟩, by decide +kernel⟩
theorem mw_X6_record : mV yX6_record cX6_record 2 none "CoinRowsModel" 0 := ⟨⟨gw_548, gs_16, gw_7, gw_549⟩, by decide +kernel⟩
theorem mw_X6_weight : mV yX6_weight cX6_weight 5 (some .int) "CoinRowsModel" 3 := ⟨⟨gw_551, gw_552, gw_7, gw_553⟩, by decide +kernel⟩
theorem mw_X6_add : mV yX6_add cX6_add 2 (some .int) "CoinRowsModel" 1 := ⟨⟨gw_555, gw_556, gw_7, gw_557⟩, by decide +kernel⟩
theorem mw_X6_cut : mV yX6_cut cX6_cut 1 (some .int) "CoinRowsModel" 0 := ⟨⟨gw_559, gw_560, gw_7, gw_561⟩, by decide +kernel⟩
theorem mw_X6_letter : mV yX6_letter cX6_letter 2 (some .int) "CoinRowsModel" 1 := ⟨⟨gw_563, gw_564, gw_7, gw_565⟩, by decide +kernel⟩
theorem mw_X6_isPlace : mV yX6_isPlace cX6_isPlace 2 (some .boolean) "CoinRowsModel" 1 := ⟨⟨gw_568, gs_17, gw_7, gw_569⟩, by decide +kernel⟩
theorem mw_X6_total : mV yX6_total cX6_total 1 (some .long) "CoinRowsModel" 0 := ⟨⟨gw_571, gw_572, gw_7, gw_573⟩, by decide +kernel⟩
theorem mw_X6_totalNow : mV yX6_totalNow cX6_totalNow 5 (some .long) "CoinRowsModel" 0 := ⟨⟨gw_576, gs_18, gw_7, gw_577⟩, by decide +kernel⟩
theorem mw_X6_layBehind : mV yX6_layBehind cX6_layBehind 3 none "CoinRowsModel" 0 := ⟨⟨gw_580, gs_19, gw_7, gw_581⟩, by decide +kernel⟩
theorem mw_X6_layBehindOf : mV yX6_layBehindOf cX6_layBehindOf 8 none "CoinRowsModel" 2 := ⟨⟨gw_584, gs_20, gw_7, gw_585⟩, by decide +kernel⟩
theorem mw_X6_step : mV yX6_step cX6_step 3 (some .int) "CoinRowsModel" 2 := ⟨⟨gw_588, gs_21, gw_7, gw_589⟩, by decide +kernel⟩
theorem mw_X6_going : mV yX6_going cX6_going 4 (some .int) "CoinRowsModel" 3 := ⟨⟨gw_592, gs_22, gw_7, gw_593⟩, by decide +kernel⟩
theorem mw_X6_tells : mV yX6_tells cX6_tells 3 (some .int) "CoinRowsModel" 2 := ⟨⟨gw_596, gs_23, gw_7, gw_597⟩, by decide +kernel⟩
theorem mw_X6_toldThen : mS yX6_toldThen cX6_toldThen 2 (some .int) "CoinRowsModel" 2 := ⟨⟨gw_599, gw_7, gw_600⟩, by decide +kernel⟩
theorem mw_X6_forward : mV yX6_forward cX6_forward 3 (some .long) "CoinRowsModel" 2 := ⟨⟨gw_602, gw_603, gw_7, gw_604⟩, by decide +kernel⟩
theorem mw_X6_layAhead : mV yX6_layAhead cX6_layAhead 3 none "CoinRowsModel" 0 := ⟨⟨gw_608, gs_24, gw_7, gw_609⟩, by decide +kernel⟩
theorem mw_X6_addAhead : mV yX6_addAhead cX6_addAhead 5 none "CoinRowsModel" 3 := ⟨⟨gw_612, gs_25, gw_7, gw_613⟩, by decide +kernel⟩
theorem mw_X6_spread : mV yX6_spread cX6_spread 4 none "CoinRowsModel" 2 := ⟨⟨gw_616, gs_26, gw_7, gw_617⟩, by decide +kernel⟩
theorem mw_X6_backward : mV yX6_backward cX6_backward 3 (some .long) "CoinRowsModel" 2 := ⟨⟨gw_619, gw_620, gw_7, gw_621⟩, by decide +kernel⟩
theorem mw_X6_ways : mV yX6_ways cX6_ways 1 (some .int) "CoinRowsModel" 0 := ⟨⟨gw_623, gw_624, gw_7, gw_625⟩, by decide +kernel⟩
theorem mw_X6_waysNow : mV yX6_waysNow cX6_waysNow 3 (some .int) "CoinRowsModel" 0 := ⟨⟨gw_628, gs_27, gw_7, gw_629⟩, by decide +kernel⟩
theorem mw_X6_way : mV yX6_way cX6_way 3 (some .int) "CoinRowsModel" 2 := ⟨⟨gw_631, gw_632, gw_7, gw_633⟩, by decide +kernel⟩
theorem mw_X6_isWay : mV yX6_isWay cX6_isWay 2 (some .boolean) "CoinRowsModel" 1 := ⟨⟨gw_636, gs_28, gw_7, gw_637⟩, by decide +kernel⟩
theorem mw_X6_layWay : mV yX6_layWay cX6_layWay 14 (some .int) "CoinRowsModel" 1 := ⟨⟨gw_640, gs_29, gw_7, gw_641⟩, by decide +kernel⟩
theorem mw_X6_ofLaid : mV yX6_ofLaid cX6_ofLaid 2 (some .int) "CoinRowsModel" 1 := ⟨⟨gw_644, gs_30, gw_7, gw_645⟩, by decide +kernel⟩
theorem mw_X6_weighs : mV yX6_weighs cX6_weighs 2 (some .long) "CoinRowsModel" 1 := ⟨⟨gw_647, gw_648, gw_7, gw_649⟩, by decide +kernel⟩
theorem mw_X6_likeliest : mV yX6_likeliest cX6_likeliest 3 (some .int) "CoinRowsModel" 1 := ⟨⟨gw_651, gw_652, gw_7, gw_653⟩, by decide +kernel⟩
theorem mw_X6_odds : mV yX6_odds cX6_odds 6 (some .long) "CoinRowsModel" 3 := ⟨⟨gw_655, gw_656, gw_7, gw_657⟩, by decide +kernel⟩
theorem mw_X6_through : mV yX6_through cX6_through 3 (some .long) "CoinRowsModel" 2 := ⟨⟨gw_662, gs_31, gw_7, gw_663⟩, by decide +kernel⟩
theorem mw_X6_lowest : mS yX6_lowest cX6_lowest 7 (some .long) "CoinRowsModel" 3 := ⟨⟨gw_665, gw_7, gw_666⟩, by decide +kernel⟩
theorem mw_X6_divisor : mS yX6_divisor cX6_divisor 10 (some .long) "CoinRowsModel" 2 := ⟨⟨gw_668, gw_7, gw_669⟩, by decide +kernel⟩
theorem mw_X6_likelyAt : mV yX6_likelyAt cX6_likelyAt 4 (some .int) "CoinRowsModel" 1 := ⟨⟨gw_671, gw_672, gw_7, gw_673⟩, by decide +kernel⟩
theorem mw_X6_expected : mV yX6_expected cX6_expected 7 (some .long) "CoinRowsModel" 4 := ⟨⟨gw_675, gw_676, gw_7, gw_677⟩, by decide +kernel⟩
theorem mw_X6_numberOf : mV yX6_numberOf cX6_numberOf 9 (some .long) "CoinRowsModel" 3 := ⟨⟨gw_680, gs_32, gw_7, gw_681⟩, by decide +kernel⟩
theorem mw_X6_shareBits : mV yX6_shareBits cX6_shareBits 3 (some .int) "CoinRowsModel" 0 := ⟨⟨gw_683, gw_684, gw_7, gw_685⟩, by decide +kernel⟩
theorem mw_X6_train : mV yX6_train cX6_train 3 (some .int) "CoinRowsModel" 0 := ⟨⟨gw_697, gw_698, gw_7, gw_699⟩, by decide +kernel⟩
theorem mw_X6_trainGroup : mV yX6_trainGroup cX6_trainGroup 8 (some .int) "CoinRowsModel" 2 := ⟨⟨gw_702, gs_33, gw_7, gw_703⟩, by decide +kernel⟩
theorem mw_X6_next : mV yX6_next cX6_next 10 (some .long) "CoinRowsModel" 1 := ⟨⟨gw_707, gw_708, gw_7, gw_709⟩, by decide +kernel⟩
theorem mw_X6_slip : mV yX6_slip cX6_slip 11 (some .long) "CoinRowsModel" 1 := ⟨⟨gw_712, gw_713, gw_7, gw_714⟩, by decide +kernel⟩
theorem mw_X6_count : mV yX6_count cX6_count 4 (some .int) "CoinRowsModel" 1 := ⟨⟨gw_716, gw_717, gw_7, gw_718⟩, by decide +kernel⟩
theorem mw_X6_put : mV yX6_put cX6_put 7 (some .int) "CoinRowsModel" 1 := ⟨⟨gw_720, gw_721, gw_7, gw_722⟩, by decide +kernel⟩
theorem mw_X6_wipe : mV yX6_wipe cX6_wipe 2 (some .int) "CoinRowsModel" 0 := ⟨⟨gw_725, gw_726, gw_7, gw_727⟩, by decide +kernel⟩
theorem mw_X6_fault : mV yX6_fault cX6_fault 1 (some .int) "CoinRowsModel" 0 := ⟨⟨gw_729, gw_730, gw_7, gw_731⟩, by decide +kernel⟩
theorem mw_X6_read : mV yX6_read cX6_read 13 (some .int) "CoinRowsModel" 1 := ⟨⟨gw_734, gs_34, gw_7, gw_735⟩, by decide +kernel⟩
theorem mw_X6_lay : mV yX6_lay cX6_lay 4 none "CoinRowsModel" 3 := ⟨⟨gw_738, gs_35, gw_7, gw_739⟩, by decide +kernel⟩
theorem mw_X6_load : mV yX6_load cX6_load 1 (some .int) "CoinRowsModel" 0 := ⟨⟨gw_741, gw_742, gw_7, gw_743⟩, by decide +kernel⟩
theorem mw_X6_undo : mV yX6_undo cX6_undo 2 (some .int) "CoinRowsModel" 0 := ⟨⟨gw_745, gw_746, gw_7, gw_747⟩, by decide +kernel⟩
theorem mw_X6_save : mV yX6_save cX6_save 3 (some .int) "CoinRowsModel" 1 := ⟨⟨gw_749, gw_750, gw_7, gw_751⟩, by decide +kernel⟩
theorem mw_X6_restore : mV yX6_restore cX6_restore 3 (some .int) "CoinRowsModel" 1 := ⟨⟨gw_753, gw_754, gw_7, gw_755⟩, by decide +kernel⟩
section QL
variable {p : Program} {l : Launch} {e : Env} {Rm : Room} {s : State} {m : MethodId} {args : Array Value} {below : List Frame} {meth : Method} {c : Code} {H : Heap} {locs : List Loc} {cells slots : Nat} {Q : State → Prop} {cc : ByteArray} {pc : Nat} {ls : Array Slot} {rest : List Value}
theorem cmp_3 (x y : Int64) : (lg_cmp x y = 1 ∧ y.toInt < x.toInt) ∨ (lg_cmp x y = 0 ∧ x.toInt = y.toInt) ∨ (lg_cmp x y = -1 ∧ x.toInt < y.toInt) := by
  unfold lg_cmp
  by_cases h1 : x > y
  · rw [if_pos h1]; exact Or.inl ⟨rfl, Int64.lt_iff_toInt_lt.mp h1⟩
  · rw [if_neg h1]
    have h2 : ¬ y.toInt < x.toInt := fun q => h1 (Int64.lt_iff_toInt_lt.mpr q)
    by_cases h3 : x = y
    · rw [if_pos h3]; exact Or.inr (Or.inl ⟨rfl, by rw [h3]⟩)
    · rw [if_neg h3]
      have h4 : ¬ x.toInt = y.toInt := fun q => h3 (Int64.toInt_inj.mp q)
      exact Or.inr (Or.inr ⟨rfl, by omega⟩)
theorem q_Llt {x y : Int64} {tgt : Nat} {off : Int} (hx : p.tables.exec = Jvm.exec) (hb : c.code = cc) (hdg : decode cc pc = .ok (.ifCond .lt off, 3)) (ht : (pc : Int) + off = (tgt : Int)) (kt : x < y → W p l e Rm s m args below meth c H locs cells slots Q (F0 m tgt ls rest)) (kf : ¬ x < y → W p l e Rm s m args below meth c H locs cells slots Q (F0 m (pc + 3) ls rest)) : W p l e Rm s m args below meth c H locs cells slots Q (F0 m pc ls (.int (lg_cmp x y) :: rest)) := by
  refine lv_if_lt hx hb hdg ht (fun h => kt ?_) (fun h => kf ?_)
  all_goals (rcases cmp_3 x y with ⟨e, h'⟩ | ⟨e, h'⟩ | ⟨e, h'⟩ <;> rw [e] at h <;> first | exact absurd h (by decide) | (simp only [Int64.lt_iff_toInt_lt, Int64.le_iff_toInt_le, ← Int64.toInt_inj]; omega))
theorem q_Lge {x y : Int64} {tgt : Nat} {off : Int} (hx : p.tables.exec = Jvm.exec) (hb : c.code = cc) (hdg : decode cc pc = .ok (.ifCond .ge off, 3)) (ht : (pc : Int) + off = (tgt : Int)) (kt : y ≤ x → W p l e Rm s m args below meth c H locs cells slots Q (F0 m tgt ls rest)) (kf : ¬ y ≤ x → W p l e Rm s m args below meth c H locs cells slots Q (F0 m (pc + 3) ls rest)) : W p l e Rm s m args below meth c H locs cells slots Q (F0 m pc ls (.int (lg_cmp x y) :: rest)) := by
  refine lv_if_ge hx hb hdg ht (fun h => kt ?_) (fun h => kf ?_)
  all_goals (rcases cmp_3 x y with ⟨e, h'⟩ | ⟨e, h'⟩ | ⟨e, h'⟩ <;> rw [e] at h <;> first | exact absurd h (by decide) | (simp only [Int64.lt_iff_toInt_lt, Int64.le_iff_toInt_le, ← Int64.toInt_inj]; omega))
theorem q_Lgt {x y : Int64} {tgt : Nat} {off : Int} (hx : p.tables.exec = Jvm.exec) (hb : c.code = cc) (hdg : decode cc pc = .ok (.ifCond .gt off, 3)) (ht : (pc : Int) + off = (tgt : Int)) (kt : y < x → W p l e Rm s m args below meth c H locs cells slots Q (F0 m tgt ls rest)) (kf : ¬ y < x → W p l e Rm s m args below meth c H locs cells slots Q (F0 m (pc + 3) ls rest)) : W p l e Rm s m args below meth c H locs cells slots Q (F0 m pc ls (.int (lg_cmp x y) :: rest)) := by
  refine lv_if_gt hx hb hdg ht (fun h => kt ?_) (fun h => kf ?_)
  all_goals (rcases cmp_3 x y with ⟨e, h'⟩ | ⟨e, h'⟩ | ⟨e, h'⟩ <;> rw [e] at h <;> first | exact absurd h (by decide) | (simp only [Int64.lt_iff_toInt_lt, Int64.le_iff_toInt_le, ← Int64.toInt_inj]; omega))
theorem q_Lle {x y : Int64} {tgt : Nat} {off : Int} (hx : p.tables.exec = Jvm.exec) (hb : c.code = cc) (hdg : decode cc pc = .ok (.ifCond .le off, 3)) (ht : (pc : Int) + off = (tgt : Int)) (kt : x ≤ y → W p l e Rm s m args below meth c H locs cells slots Q (F0 m tgt ls rest)) (kf : ¬ x ≤ y → W p l e Rm s m args below meth c H locs cells slots Q (F0 m (pc + 3) ls rest)) : W p l e Rm s m args below meth c H locs cells slots Q (F0 m pc ls (.int (lg_cmp x y) :: rest)) := by
  refine lv_if_le hx hb hdg ht (fun h => kt ?_) (fun h => kf ?_)
  all_goals (rcases cmp_3 x y with ⟨e, h'⟩ | ⟨e, h'⟩ | ⟨e, h'⟩ <;> rw [e] at h <;> first | exact absurd h (by decide) | (simp only [Int64.lt_iff_toInt_lt, Int64.le_iff_toInt_le, ← Int64.toInt_inj]; omega))
theorem q_Leq {x y : Int64} {tgt : Nat} {off : Int} (hx : p.tables.exec = Jvm.exec) (hb : c.code = cc) (hdg : decode cc pc = .ok (.ifCond .eq off, 3)) (ht : (pc : Int) + off = (tgt : Int)) (kt : x = y → W p l e Rm s m args below meth c H locs cells slots Q (F0 m tgt ls rest)) (kf : ¬ x = y → W p l e Rm s m args below meth c H locs cells slots Q (F0 m (pc + 3) ls rest)) : W p l e Rm s m args below meth c H locs cells slots Q (F0 m pc ls (.int (lg_cmp x y) :: rest)) := by
  refine lv_if_eq hx hb hdg ht (fun h => kt ?_) (fun h => kf ?_)
  all_goals (rcases cmp_3 x y with ⟨e, h'⟩ | ⟨e, h'⟩ | ⟨e, h'⟩ <;> rw [e] at h <;> first | exact absurd h (by decide) | (simp only [Int64.lt_iff_toInt_lt, Int64.le_iff_toInt_le, ← Int64.toInt_inj]; omega))
theorem q_Lne {x y : Int64} {tgt : Nat} {off : Int} (hx : p.tables.exec = Jvm.exec) (hb : c.code = cc) (hdg : decode cc pc = .ok (.ifCond .ne off, 3)) (ht : (pc : Int) + off = (tgt : Int)) (kt : ¬ x = y → W p l e Rm s m args below meth c H locs cells slots Q (F0 m tgt ls rest)) (kf : x = y → W p l e Rm s m args below meth c H locs cells slots Q (F0 m (pc + 3) ls rest)) : W p l e Rm s m args below meth c H locs cells slots Q (F0 m pc ls (.int (lg_cmp x y) :: rest)) := by
  refine lv_if_ne hx hb hdg ht (fun h => kt ?_) (fun h => kf ?_)
  all_goals (rcases cmp_3 x y with ⟨e, h'⟩ | ⟨e, h'⟩ | ⟨e, h'⟩ <;> rw [e] at h <;> first | exact absurd h (by decide) | (simp only [Int64.lt_iff_toInt_lt, Int64.le_iff_toInt_le, ← Int64.toInt_inj]; omega))
theorem q_llt {a b tgt : Nat} {off : Int} (hx : p.tables.exec = Jvm.exec) (hb : c.code = cc) (hdg : decode cc pc = .ok (.ifCond .lt off, 3)) (ht : (pc : Int) + off = (tgt : Int)) (ha : a < 2 ^ 63) (hb2 : b < 2 ^ 63) (kt : a < b → W p l e Rm s m args below meth c H locs cells slots Q (F0 m tgt ls rest)) (kf : b ≤ a → W p l e Rm s m args below meth c H locs cells slots Q (F0 m (pc + 3) ls rest)) : W p l e Rm s m args below meth c H locs cells slots Q (F0 m pc ls (.int (lg_cmp (lN a) (lN b)) :: rest)) := by
  refine q_Llt hx hb hdg ht (fun h => kt ?_) (fun h => kf ?_)
  all_goals (simp only [pk_lLT ha hb2, pk_lLE ha hb2, pk_lLT hb2 ha, pk_lLE hb2 ha, pk_lEQ ha hb2] at h)
  all_goals omega
theorem q_lge {a b tgt : Nat} {off : Int} (hx : p.tables.exec = Jvm.exec) (hb : c.code = cc) (hdg : decode cc pc = .ok (.ifCond .ge off, 3)) (ht : (pc : Int) + off = (tgt : Int)) (ha : a < 2 ^ 63) (hb2 : b < 2 ^ 63) (kt : b ≤ a → W p l e Rm s m args below meth c H locs cells slots Q (F0 m tgt ls rest)) (kf : a < b → W p l e Rm s m args below meth c H locs cells slots Q (F0 m (pc + 3) ls rest)) : W p l e Rm s m args below meth c H locs cells slots Q (F0 m pc ls (.int (lg_cmp (lN a) (lN b)) :: rest)) := by
  refine q_Lge hx hb hdg ht (fun h => kt ?_) (fun h => kf ?_)
  all_goals (simp only [pk_lLT ha hb2, pk_lLE ha hb2, pk_lLT hb2 ha, pk_lLE hb2 ha, pk_lEQ ha hb2] at h)
  all_goals omega
theorem q_lgt {a b tgt : Nat} {off : Int} (hx : p.tables.exec = Jvm.exec) (hb : c.code = cc) (hdg : decode cc pc = .ok (.ifCond .gt off, 3)) (ht : (pc : Int) + off = (tgt : Int)) (ha : a < 2 ^ 63) (hb2 : b < 2 ^ 63) (kt : b < a → W p l e Rm s m args below meth c H locs cells slots Q (F0 m tgt ls rest)) (kf : a ≤ b → W p l e Rm s m args below meth c H locs cells slots Q (F0 m (pc + 3) ls rest)) : W p l e Rm s m args below meth c H locs cells slots Q (F0 m pc ls (.int (lg_cmp (lN a) (lN b)) :: rest)) := by
  refine q_Lgt hx hb hdg ht (fun h => kt ?_) (fun h => kf ?_)
  all_goals (simp only [pk_lLT ha hb2, pk_lLE ha hb2, pk_lLT hb2 ha, pk_lLE hb2 ha, pk_lEQ ha hb2] at h)
  all_goals omega
theorem q_lle {a b tgt : Nat} {off : Int} (hx : p.tables.exec = Jvm.exec) (hb : c.code = cc) (hdg : decode cc pc = .ok (.ifCond .le off, 3)) (ht : (pc : Int) + off = (tgt : Int)) (ha : a < 2 ^ 63) (hb2 : b < 2 ^ 63) (kt : a ≤ b → W p l e Rm s m args below meth c H locs cells slots Q (F0 m tgt ls rest)) (kf : b < a → W p l e Rm s m args below meth c H locs cells slots Q (F0 m (pc + 3) ls rest)) : W p l e Rm s m args below meth c H locs cells slots Q (F0 m pc ls (.int (lg_cmp (lN a) (lN b)) :: rest)) := by
  refine q_Lle hx hb hdg ht (fun h => kt ?_) (fun h => kf ?_)
  all_goals (simp only [pk_lLT ha hb2, pk_lLE ha hb2, pk_lLT hb2 ha, pk_lLE hb2 ha, pk_lEQ ha hb2] at h)
  all_goals omega
theorem q_leq {a b tgt : Nat} {off : Int} (hx : p.tables.exec = Jvm.exec) (hb : c.code = cc) (hdg : decode cc pc = .ok (.ifCond .eq off, 3)) (ht : (pc : Int) + off = (tgt : Int)) (ha : a < 2 ^ 63) (hb2 : b < 2 ^ 63) (kt : a = b → W p l e Rm s m args below meth c H locs cells slots Q (F0 m tgt ls rest)) (kf : a ≠ b → W p l e Rm s m args below meth c H locs cells slots Q (F0 m (pc + 3) ls rest)) : W p l e Rm s m args below meth c H locs cells slots Q (F0 m pc ls (.int (lg_cmp (lN a) (lN b)) :: rest)) := by
  refine q_Leq hx hb hdg ht (fun h => kt ?_) (fun h => kf ?_)
  all_goals (simp only [pk_lLT ha hb2, pk_lLE ha hb2, pk_lLT hb2 ha, pk_lLE hb2 ha, pk_lEQ ha hb2] at h)
  all_goals omega
theorem q_lne {a b tgt : Nat} {off : Int} (hx : p.tables.exec = Jvm.exec) (hb : c.code = cc) (hdg : decode cc pc = .ok (.ifCond .ne off, 3)) (ht : (pc : Int) + off = (tgt : Int)) (ha : a < 2 ^ 63) (hb2 : b < 2 ^ 63) (kt : a ≠ b → W p l e Rm s m args below meth c H locs cells slots Q (F0 m tgt ls rest)) (kf : a = b → W p l e Rm s m args below meth c H locs cells slots Q (F0 m (pc + 3) ls rest)) : W p l e Rm s m args below meth c H locs cells slots Q (F0 m pc ls (.int (lg_cmp (lN a) (lN b)) :: rest)) := by
  refine q_Lne hx hb hdg ht (fun h => kt ?_) (fun h => kf ?_)
  all_goals (simp only [pk_lLT ha hb2, pk_lLE ha hb2, pk_lLT hb2 ha, pk_lLE hb2 ha, pk_lEQ ha hb2] at h)
  all_goals omega
end QL
