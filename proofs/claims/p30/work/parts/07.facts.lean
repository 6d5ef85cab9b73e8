theorem kd_0 : kd 0 = (15, 8) := by decide +kernel
theorem kd_1 : kd 1 = (10, 3) := by decide +kernel
theorem kd_2 : kd 2 = (0, 58) := by decide +kernel
theorem kd_3 : kd 3 = (0, 6) := by decide +kernel
theorem kd_4 : kd 4 = (4, 6) := by decide +kernel
theorem kd_5 : kd 5 = (4, 2) := by decide +kernel
theorem kd_6 : kd 6 = (11, 4) := by decide +kernel
theorem kd_7 : kd 7 = (2, 80) := by decide +kernel
theorem kd_8 : kd 8 = (12, 5) := by decide +kernel
theorem kd_9 : kd 9 = (5, 7) := by decide +kernel
theorem kd_10 : kd 10 = (1, 7) := by decide +kernel
theorem kd_11 : kd 11 = (1, 7) := by decide +kernel
theorem kd_12 : kd 12 = (1, 7) := by decide +kernel
theorem kd_13 : kd 13 = (1, 7) := by decide +kernel
theorem kd_14 : kd 14 = (1, 7) := by decide +kernel
theorem kd_15 : kd 15 = (1, 7) := by decide +kernel
theorem kd_16 : kd 16 = (1, 7) := by decide +kernel
theorem kd_17 : kd 17 = (5, 7) := by decide +kernel
theorem kd_18 : kd 18 = (1, 4) := by decide +kernel
theorem kd_19 : kd 19 = (1, 4) := by decide +kernel
theorem kd_20 : kd 20 = (1, 4) := by decide +kernel
theorem kd_21 : kd 21 = (1, 4) := by decide +kernel
theorem kd_22 : kd 22 = (1, 4) := by decide +kernel
theorem kd_23 : kd 23 = (1, 4) := by decide +kernel
theorem kd_24 : kd 24 = (1, 4) := by decide +kernel
theorem kd_25 : kd 25 = (5, 7) := by decide +kernel
theorem kd_26 : kd 26 = (1, 7) := by decide +kernel
theorem kd_27 : kd 27 = (1, 7) := by decide +kernel
theorem kd_28 : kd 28 = (1, 7) := by decide +kernel
theorem kd_29 : kd 29 = (1, 7) := by decide +kernel
theorem kd_30 : kd 30 = (1, 7) := by decide +kernel
theorem kd_31 : kd 31 = (1, 7) := by decide +kernel
theorem kd_32 : kd 32 = (1, 7) := by decide +kernel
theorem kd_33 : kd 33 = (5, 7) := by decide +kernel
theorem kd_34 : kd 34 = (1, 7) := by decide +kernel
theorem kd_35 : kd 35 = (1, 7) := by decide +kernel
theorem kd_36 : kd 36 = (1, 7) := by decide +kernel
theorem kd_37 : kd 37 = (1, 7) := by decide +kernel
theorem kd_38 : kd 38 = (1, 7) := by decide +kernel
theorem kd_39 : kd 39 = (1, 7) := by decide +kernel
theorem kd_40 : kd 40 = (1, 7) := by decide +kernel
theorem kd_41 : kd 41 = (6, 7) := by decide +kernel
theorem kd_42 : kd 42 = (0, 7) := by decide +kernel
theorem kd_43 : kd 43 = (0, 7) := by decide +kernel
theorem kd_44 : kd 44 = (0, 7) := by decide +kernel
theorem kd_45 : kd 45 = (0, 7) := by decide +kernel
theorem kd_46 : kd 46 = (0, 7) := by decide +kernel
theorem kd_47 : kd 47 = (0, 7) := by decide +kernel
theorem kd_48 : kd 48 = (0, 7) := by decide +kernel
theorem kd_49 : kd 49 = (14, 4) := by decide +kernel
theorem kd_50 : kd 50 = (0, 18) := by decide +kernel
theorem kd_51 : kd 51 = (13, 1) := by decide +kernel
theorem kd_52 : kd 52 = (1, 58) := by decide +kernel
theorem kd_53 : kd 53 = (10, 3) := by decide +kernel
theorem kd_54 : kd 54 = (0, 58) := by decide +kernel
theorem kd_55 : kd 55 = (0, 6) := by decide +kernel
theorem kd_56 : kd 56 = (10, 3) := by decide +kernel
theorem kd_57 : kd 57 = (0, 58) := by decide +kernel
theorem kd_58 : kd 58 = (0, 6) := by decide +kernel
theorem kd_59 : kd 59 = (10, 3) := by decide +kernel
theorem kd_60 : kd 60 = (0, 58) := by decide +kernel
theorem kd_61 : kd 61 = (0, 6) := by decide +kernel
theorem kd_62 : kd 62 = (10, 3) := by decide +kernel
theorem kd_63 : kd 63 = (0, 58) := by decide +kernel
theorem kd_64 : kd 64 = (0, 6) := by decide +kernel
theorem kd_65 : kd 65 = (10, 3) := by decide +kernel
theorem kd_66 : kd 66 = (0, 58) := by decide +kernel
theorem kd_67 : kd 67 = (0, 6) := by decide +kernel
theorem kd_68 : kd 68 = (10, 3) := by decide +kernel
theorem kd_69 : kd 69 = (0, 58) := by decide +kernel
theorem kd_70 : kd 70 = (0, 6) := by decide +kernel
theorem kd_71 : kd 71 = (1, 24) := by decide +kernel
theorem kd_72 : kd 72 = (1, 24) := by decide +kernel
theorem kd_73 : kd 73 = (0, 24) := by decide +kernel
theorem kd_74 : kd 74 = (0, 64) := by decide +kernel
theorem kd_r10 {t : Nat} (h : t < 7) : kd (10 + t) = (1, 7) := (show ∀ i, i < 7 → kd (10 + i) = (1, 7) by decide +kernel) t h
theorem kd_r18 {t : Nat} (h : t < 7) : kd (18 + t) = (1, 4) := (show ∀ i, i < 7 → kd (18 + i) = (1, 4) by decide +kernel) t h
theorem kd_r26 {t : Nat} (h : t < 7) : kd (26 + t) = (1, 7) := (show ∀ i, i < 7 → kd (26 + i) = (1, 7) by decide +kernel) t h
theorem kd_r34 {t : Nat} (h : t < 7) : kd (34 + t) = (1, 7) := (show ∀ i, i < 7 → kd (34 + i) = (1, 7) by decide +kernel) t h
theorem kd_r42 {t : Nat} (h : t < 7) : kd (42 + t) = (0, 7) := (show ∀ i, i < 7 → kd (42 + i) = (0, 7) by decide +kernel) t h
def mdl (x : Nat) : Prop := kd x = (10, 3) ∧ kd (x + 1) = (0, 58) ∧ kd (x + 2) = (0, 6)
theorem mdl_1 : mdl 1 := ⟨by decide +kernel, by decide +kernel, by decide +kernel⟩
theorem mdl_h {i : Nat} (h : i < 6) : mdl (53 + 3 * i) := ⟨(show ∀ i, i < 6 → kd (53 + 3 * i) = (10, 3) by decide +kernel) i h, (show ∀ i, i < 6 → kd (53 + 3 * i + 1) = (0, 58) by decide +kernel) i h, (show ∀ i, i < 6 → kd (53 + 3 * i + 2) = (0, 6) by decide +kernel) i h⟩
def lkf (a j : Nat) : Option Nat := match (kd a).1 with
  | 10 => if j < 2 then some (a + 1 + j) else none
  | 11 => if j = 0 then some (a + 1) else none
  | 12 => if j < 5 then some (a + 1 + 8 * j) else none
  | 13 => if j = 0 then some (a + 1) else none
  | 14 => if j = 0 then some (a + 1) else none
  | 15 => [some 1, some 4, none, some 5, some 6, some 8, some 49, some 51].getD j none
  | 5 => if j < 7 then some (a + 1 + j) else none
  | 6 => if j < 7 then some (a + 1 + j) else none
  | _ => none
def LkOK (n : Nat) (R : Rc) : Prop := ∀ a j y, a < n → lkf a j = some y → R a j = some y
theorem lk_m {n : Nat} {R : Rc} {x j : Nat} (h : LkOK n R) (hx : x < n) (hk : mdl x) (hj : j < 2) : R x j = some (x + 1 + j) := h x j _ hx (by unfold lkf; rw [hk.1]; simp [hj])
theorem lk_row9 {n : Nat} {R : Rc} {t : Nat} (h : LkOK n R) (hn : 9 < n) (ht : t < 7) : R 9 t = some (10 + t) := h 9 t _ hn (by unfold lkf; rw [kd_9]; simp [ht])
theorem lk_row17 {n : Nat} {R : Rc} {t : Nat} (h : LkOK n R) (hn : 17 < n) (ht : t < 7) : R 17 t = some (18 + t) := h 17 t _ hn (by unfold lkf; rw [kd_17]; simp [ht])
theorem lk_row25 {n : Nat} {R : Rc} {t : Nat} (h : LkOK n R) (hn : 25 < n) (ht : t < 7) : R 25 t = some (26 + t) := h 25 t _ hn (by unfold lkf; rw [kd_25]; simp [ht])
theorem lk_row33 {n : Nat} {R : Rc} {t : Nat} (h : LkOK n R) (hn : 33 < n) (ht : t < 7) : R 33 t = some (34 + t) := h 33 t _ hn (by unfold lkf; rw [kd_33]; simp [ht])
theorem lk_row41 {n : Nat} {R : Rc} {t : Nat} (h : LkOK n R) (hn : 41 < n) (ht : t < 7) : R 41 t = some (42 + t) := h 41 t _ hn (by unfold lkf; rw [kd_41]; simp [ht])
theorem mw_X5_init : mI yX5_init cX5_init 2 0 := ⟨⟨gw_12, gw_1, gw_13⟩, rfl, by decide +kernel⟩
theorem mw_X0_init : mI yX0_init cX0_init 1 0 := ⟨⟨gw_20, gw_2, gw_21⟩, rfl, by decide +kernel⟩
theorem mw_X1_init : mI yX1_init cX1_init 1 0 := ⟨⟨gw_45, gw_3, gw_46⟩, rfl, by decide +kernel⟩
theorem mw_X2_init : mI yX2_init cX2_init 1 0 := ⟨⟨gw_66, gw_4, gw_67⟩, rfl, by decide +kernel⟩
theorem mw_X4_init : mI yX4_init cX4_init 1 0 := ⟨⟨gw_97, gw_5, gw_98⟩, rfl, by decide +kernel⟩
theorem mw_X3_init : mI yX3_init cX3_init 1 0 := ⟨⟨gw_117, gw_6, gw_118⟩, rfl, by decide +kernel⟩
theorem mw_L_cell : mS yL_cell cL_cell 3 (some .int) "CoinRowsLaw" 3 := ⟨⟨gw_150, gw_0, gw_151⟩, by decide +kernel⟩
theorem mw_L_agree : mS yL_agree cL_agree 6 (some .boolean) "CoinRowsLaw" 1 := ⟨⟨gw_154, gw_0, gw_155⟩, by decide +kernel⟩
theorem mw_X5_weight : mV yX5_weight cX5_weight 5 (some .int) "CoinRows" 3 := ⟨⟨gw_157, gw_158, gw_1, gw_159⟩, by decide +kernel⟩
theorem mw_X5_isKind : mS yX5_isKind cX5_isKind 1 (some .boolean) "CoinRows" 1 := ⟨⟨gw_161, gw_1, gw_162⟩, by decide +kernel⟩
theorem mw_X5_indexOf : mS yX5_indexOf cX5_indexOf 3 (some .int) "CoinRows" 3 := ⟨⟨gw_164, gw_1, gw_165⟩, by decide +kernel⟩
theorem mw_X5_isCoin : mS yX5_isCoin cX5_isCoin 1 (some .boolean) "CoinRows" 1 := ⟨⟨gw_167, gw_1, gw_168⟩, by decide +kernel⟩
theorem mw_X5_isLoud : mS yX5_isLoud cX5_isLoud 1 (some .boolean) "CoinRows" 1 := ⟨⟨gw_170, gw_1, gw_171⟩, by decide +kernel⟩
theorem mw_X5_count : mV yX5_count cX5_count 2 (some .int) "CoinRows" 1 := ⟨⟨gw_173, gw_174, gw_1, gw_175⟩, by decide +kernel⟩
theorem mw_X0_countWeights : mV yX0_countWeights cX0_countWeights 3 (some .int) "CoinRows$Model" 0 := ⟨⟨gw_177, gw_178, gw_2, gw_179⟩, by decide +kernel⟩
theorem mw_L_areAhead : mS yL_areAhead cL_areAhead 12 (some .boolean) "CoinRowsLaw" 3 := ⟨⟨gw_181, gw_0, gw_182⟩, by decide +kernel⟩
theorem mw_X5_letter : mV yX5_letter cX5_letter 2 (some .int) "CoinRows" 1 := ⟨⟨gw_184, gw_185, gw_1, gw_186⟩, by decide +kernel⟩
theorem mw_X0_hasPlace : mV yX0_hasPlace cX0_hasPlace 2 (some .boolean) "CoinRows$Model" 1 := ⟨⟨gw_188, gw_189, gw_2, gw_190⟩, by decide +kernel⟩
theorem mw_L_over : mS yL_over cL_over 6 (some .long) "CoinRowsLaw" 3 := ⟨⟨gw_192, gw_0, gw_193⟩, by decide +kernel⟩
theorem mw_L_manners : mS yL_manners cL_manners 7 (some .int) "CoinRowsLaw" 3 := ⟨⟨gw_195, gw_0, gw_196⟩, by decide +kernel⟩
theorem mw_X5_forward : mV yX5_forward cX5_forward 3 (some .long) "CoinRows" 2 := ⟨⟨gw_198, gw_199, gw_1, gw_200⟩, by decide +kernel⟩
theorem mw_X2_measure : mV yX2_measure cX2_measure 2 none "CoinRows$Sums" 1 := ⟨⟨gw_203, gw_204, gw_4, gw_205⟩, by decide +kernel⟩
theorem mw_X2_sumBeginnings : mV yX2_sumBeginnings cX2_sumBeginnings 4 none "CoinRows$Sums" 1 := ⟨⟨gw_208, gs_0, gw_4, gw_209⟩, by decide +kernel⟩
theorem mw_X2_arrive : mV yX2_arrive cX2_arrive 7 (some .long) "CoinRows$Sums" 3 := ⟨⟨gw_212, gs_1, gw_4, gw_213⟩, by decide +kernel⟩
theorem mw_X0_stepWeight : mV yX0_stepWeight cX0_stepWeight 3 (some .int) "CoinRows$Model" 2 := ⟨⟨gw_215, gw_216, gw_2, gw_217⟩, by decide +kernel⟩
theorem mw_X0_letterWeight : mV yX0_letterWeight cX0_letterWeight 3 (some .int) "CoinRows$Model" 2 := ⟨⟨gw_219, gw_220, gw_2, gw_221⟩, by decide +kernel⟩
theorem mw_X2_sumRests : mV yX2_sumRests cX2_sumRests 4 none "CoinRows$Sums" 1 := ⟨⟨gw_224, gs_2, gw_4, gw_225⟩, by decide +kernel⟩
theorem mw_X2_sumRestsBehind : mV yX2_sumRestsBehind cX2_sumRestsBehind 12 none "CoinRows$Sums" 3 := ⟨⟨gw_228, gs_3, gw_4, gw_229⟩, by decide +kernel⟩
theorem mw_X0_moveWeight : mV yX0_moveWeight cX0_moveWeight 4 (some .int) "CoinRows$Model" 3 := ⟨⟨gw_231, gw_232, gw_2, gw_233⟩, by decide +kernel⟩
theorem mw_X5_backward : mV yX5_backward cX5_backward 3 (some .long) "CoinRows" 2 := ⟨⟨gw_240, gw_241, gw_1, gw_242⟩, by decide +kernel⟩
theorem mw_X5_total : mV yX5_total cX5_total 1 (some .long) "CoinRows" 0 := ⟨⟨gw_244, gw_245, gw_1, gw_246⟩, by decide +kernel⟩
theorem mw_X2_whole : mV yX2_whole cX2_whole 1 (some .long) "CoinRows$Sums" 0 := ⟨⟨gw_248, gw_249, gw_4, gw_250⟩, by decide +kernel⟩
theorem mw_X5_ways : mV yX5_ways cX5_ways 1 (some .int) "CoinRows" 0 := ⟨⟨gw_252, gw_253, gw_1, gw_254⟩, by decide +kernel⟩
theorem mw_X2_number : mV yX2_number cX2_number 1 (some .int) "CoinRows$Sums" 0 := ⟨⟨gw_256, gw_257, gw_4, gw_258⟩, by decide +kernel⟩
theorem mw_L_areOdds : mS yL_areOdds cL_areOdds 11 (some .boolean) "CoinRowsLaw" 4 := ⟨⟨gw_260, gw_0, gw_261⟩, by decide +kernel⟩
theorem mw_X5_odds : mV yX5_odds cX5_odds 4 (some .long) "CoinRows" 3 := ⟨⟨gw_263, gw_264, gw_1, gw_265⟩, by decide +kernel⟩
theorem mw_X5_isPart : mS yX5_isPart cX5_isPart 1 (some .boolean) "CoinRows" 1 := ⟨⟨gw_267, gw_1, gw_268⟩, by decide +kernel⟩
theorem mw_X2_through : mV yX2_through cX2_through 3 (some .long) "CoinRows$Sums" 2 := ⟨⟨gw_272, gw_273, gw_4, gw_274⟩, by decide +kernel⟩
theorem mw_X5_inLowestTerms : mS yX5_inLowestTerms cX5_inLowestTerms 7 (some .long) "CoinRows" 3 := ⟨⟨gw_276, gw_1, gw_277⟩, by decide +kernel⟩
theorem mw_X5_commonDivisor : mS yX5_commonDivisor cX5_commonDivisor 11 (some .long) "CoinRows" 2 := ⟨⟨gw_279, gw_1, gw_280⟩, by decide +kernel⟩
theorem mw_L_isPart : mS yL_isPart cL_isPart 8 (some .boolean) "CoinRowsLaw" 4 := ⟨⟨gw_283, gw_0, gw_284⟩, by decide +kernel⟩
theorem mw_L_divisor : mS yL_divisor cL_divisor 10 (some .long) "CoinRowsLaw" 2 := ⟨⟨gw_286, gw_0, gw_287⟩, by decide +kernel⟩
theorem mw_X5_likelyAt : mV yX5_likelyAt cX5_likelyAt 4 (some .int) "CoinRows" 1 := ⟨⟨gw_289, gw_290, gw_1, gw_291⟩, by decide +kernel⟩
theorem mw_L_areExpected : mS yL_areExpected cL_areExpected 17 (some .boolean) "CoinRowsLaw" 4 := ⟨⟨gw_294, gw_0, gw_295⟩, by decide +kernel⟩
theorem mw_X5_expected : mV yX5_expected cX5_expected 7 (some .long) "CoinRows" 4 := ⟨⟨gw_297, gw_298, gw_1, gw_299⟩, by decide +kernel⟩
theorem mw_X2_ofLetter : mV yX2_ofLetter cX2_ofLetter 7 (some .long) "CoinRows$Sums" 3 := ⟨⟨gw_301, gw_302, gw_4, gw_303⟩, by decide +kernel⟩
theorem mw_X2_ofStep : mV yX2_ofStep cX2_ofStep 8 (some .long) "CoinRows$Sums" 3 := ⟨⟨gw_306, gw_307, gw_4, gw_308⟩, by decide +kernel⟩
theorem mw_L_numberOf : mS yL_numberOf cL_numberOf 6 (some .long) "CoinRowsLaw" 5 := ⟨⟨gw_310, gw_0, gw_311⟩, by decide +kernel⟩
theorem mw_L_areWays : mS yL_areWays cL_areWays 17 (some .boolean) "CoinRowsLaw" 2 := ⟨⟨gw_313, gw_0, gw_314⟩, by decide +kernel⟩
theorem mw_X5_weighs : mV yX5_weighs cX5_weighs 2 (some .long) "CoinRows" 1 := ⟨⟨gw_316, gw_317, gw_1, gw_318⟩, by decide +kernel⟩
theorem mw_X4_follow : mV yX4_follow cX4_follow 8 none "CoinRows$Walk" 3 := ⟨⟨gw_320, gw_321, gw_5, gw_322⟩, by decide +kernel⟩
theorem mw_X4_chooseByNumber : mV yX4_chooseByNumber cX4_chooseByNumber 8 (some .int) "CoinRows$Walk" 5 := ⟨⟨gw_325, gs_4, gw_5, gw_326⟩, by decide +kernel⟩
theorem mw_X4_restsThrough : mS yX4_restsThrough cX4_restsThrough 6 (some .int) "CoinRows$Walk" 5 := ⟨⟨gw_328, gw_5, gw_329⟩, by decide +kernel⟩
theorem mw_X5_way : mV yX5_way cX5_way 3 (some .int) "CoinRows" 2 := ⟨⟨gw_332, gw_333, gw_1, gw_334⟩, by decide +kernel⟩
theorem mw_X4_tell : mV yX4_tell cX4_tell 2 (some .int) "CoinRows$Walk" 1 := ⟨⟨gw_336, gw_337, gw_5, gw_338⟩, by decide +kernel⟩
theorem mw_L_isBehind : mS yL_isBehind cL_isBehind 3 (some .boolean) "CoinRowsLaw" 2 := ⟨⟨gw_340, gw_0, gw_341⟩, by decide +kernel⟩
theorem mw_X5_likeliest : mV yX5_likeliest cX5_likeliest 3 (some .int) "CoinRows" 1 := ⟨⟨gw_343, gw_344, gw_1, gw_345⟩, by decide +kernel⟩
theorem mw_X4_findBest : mV yX4_findBest cX4_findBest 7 (some .int) "CoinRows$Walk" 2 := ⟨⟨gw_347, gw_348, gw_5, gw_349⟩, by decide +kernel⟩
theorem mw_X4_chooseBest : mV yX4_chooseBest cX4_chooseBest 10 (some .int) "CoinRows$Walk" 4 := ⟨⟨gw_352, gs_5, gw_5, gw_353⟩, by decide +kernel⟩
theorem mw_X5_shareBits : mV yX5_shareBits cX5_shareBits 3 (some .int) "CoinRows" 0 := ⟨⟨gw_355, gw_356, gw_1, gw_357⟩, by decide +kernel⟩
theorem mw_X2_greatest : mV yX2_greatest cX2_greatest 1 (some .long) "CoinRows$Sums" 0 := ⟨⟨gw_359, gw_360, gw_4, gw_361⟩, by decide +kernel⟩
theorem mw_X5_bitsOf : mS yX5_bitsOf cX5_bitsOf 4 (some .int) "CoinRows" 1 := ⟨⟨gw_363, gw_1, gw_364⟩, by decide +kernel⟩
theorem mw_L_isGiven : mS yL_isGiven cL_isGiven 9 (some .boolean) "CoinRowsLaw" 5 := ⟨⟨gw_368, gw_0, gw_369⟩, by decide +kernel⟩
theorem mw_X5_give : mV yX5_give cX5_give 7 (some .int) "CoinRows" 4 := ⟨⟨gw_371, gw_372, gw_1, gw_373⟩, by decide +kernel⟩
theorem mw_X5_isBarred : mS yX5_isBarred cX5_isBarred 2 (some .boolean) "CoinRows" 2 := ⟨⟨gw_375, gw_1, gw_376⟩, by decide +kernel⟩
theorem mw_X5_remember : mV yX5_remember cX5_remember 3 none "CoinRows" 0 := ⟨⟨gw_379, gs_6, gw_1, gw_380⟩, by decide +kernel⟩
theorem mw_X0_copyFrom : mV yX0_copyFrom cX0_copyFrom 2 none "CoinRows$Model" 1 := ⟨⟨gw_382, gw_383, gw_2, gw_384⟩, by decide +kernel⟩
theorem mw_L_isAct : mS yL_isAct cL_isAct 6 (some .boolean) "CoinRowsLaw" 3 := ⟨⟨gw_389, gw_0, gw_390⟩, by decide +kernel⟩
theorem mw_X5_add : mV yX5_add cX5_add 2 (some .int) "CoinRows" 1 := ⟨⟨gw_392, gw_393, gw_1, gw_394⟩, by decide +kernel⟩
theorem mw_X0_append : mV yX0_append cX0_append 2 none "CoinRows$Model" 1 := ⟨⟨gw_396, gw_397, gw_2, gw_398⟩, by decide +kernel⟩
theorem mw_X5_cut : mV yX5_cut cX5_cut 1 (some .int) "CoinRows" 0 := ⟨⟨gw_400, gw_401, gw_1, gw_402⟩, by decide +kernel⟩
theorem mw_L_isTrained : mS yL_isTrained cL_isTrained 15 (some .boolean) "CoinRowsLaw" 1 := ⟨⟨gw_404, gw_0, gw_405⟩, by decide +kernel⟩
theorem mw_X5_train : mV yX5_train cX5_train 1 (some .int) "CoinRows" 0 := ⟨⟨gw_407, gw_408, gw_1, gw_409⟩, by decide +kernel⟩
theorem mw_X3_improve : mV yX3_improve cX3_improve 5 (some .int) "CoinRows$Trainer" 2 := ⟨⟨gw_411, gw_412, gw_6, gw_413⟩, by decide +kernel⟩
theorem mw_X3_improveGroup : mV yX3_improveGroup cX3_improveGroup 9 (some .int) "CoinRows$Trainer" 3 := ⟨⟨gw_418, gs_7, gw_6, gw_419⟩, by decide +kernel⟩
theorem mw_L_number : mS yL_number cL_number 5 (some .long) "CoinRowsLaw" 4 := ⟨⟨gw_424, gw_0, gw_425⟩, by decide +kernel⟩
theorem mw_L_weight : mS yL_weight cL_weight 3 (some .int) "CoinRowsLaw" 3 := ⟨⟨gw_427, gw_0, gw_428⟩, by decide +kernel⟩
theorem mw_L_at : mS yL_at cL_at 2 (some .int) "CoinRowsLaw" 2 := ⟨⟨gw_432, gw_0, gw_433⟩, by decide +kernel⟩
section QL
variable {p : Program} {l : Launch} {e : Env} {Rm : Room} {s : State} {m : MethodId} {args : Array Value} {below : List Frame} {meth : Method} {c : Code} {H : Heap} {locs : List Loc} {cells slots : Nat} {Q : State → Prop} {cc : ByteArray} {pc : Nat} {ls : Array Slot} {rest : List Value}
theorem cmp_3 (x y : Int64) : (lg_cmp x y = 1 ∧ y.toInt < x.toInt) ∨ (lg_cmp x y = 0 ∧ x.toInt = y.toInt) ∨ (lg_cmp x y = -1 ∧ x.toInt < y.toInt) := by
  unfold lg_cmp
  by_cases h1 : x > y
  · rw [if_pos h1]; exact Or.inl ⟨rfl, Int64.lt_iff_toInt_lt.mp h1⟩
  · rw [if_neg h1]
    have h2 : ¬ y.toInt < x.toInt := fun q => h1 (Int64.lt_iff_toInt_lt.mpr q)
    by_cases h3 : x = y
    · rw [if_pos h3]; exact Or.inr (Or.inl ⟨rfl, by rw [h3]⟩)
    · rw [if_neg h3]
      have h4 : ¬ x.toInt = y.toInt := fun q => h3 (Int64.toInt_inj.mp q)
      exact Or.inr (Or.inr ⟨rfl, by omega⟩)
theorem q_Llt {x y : Int64} {tgt : Nat} {off : Int} (hx : p.tables.exec = Jvm.exec) (hb : c.code = cc) (hdg : decode cc pc = .ok (.ifCond .lt off, 3)) (ht : (pc : Int) + off = (tgt : Int)) (kt : x < y → W p l e Rm s m args below meth c H locs cells slots Q (F0 m tgt ls rest)) (kf : ¬ x < y → W p l e Rm s m args below meth c H locs cells slots Q (F0 m (pc + 3) ls rest)) : W p l e Rm s m args below meth c H locs cells slots Q (F0 m pc ls (.int (lg_cmp x y) :: rest)) := by
  refine lv_if_lt hx hb hdg ht (fun h => kt ?_) (fun h => kf ?_)
  all_goals (rcases cmp_3 x y with ⟨e, h'⟩ | ⟨e, h'⟩ | ⟨e, h'⟩ <;> rw [e] at h <;> first | exact absurd h (by decide) | (simp only [Int64.lt_iff_toInt_lt, Int64.le_iff_toInt_le, ← Int64.toInt_inj]; omega))
theorem q_Lge {x y : Int64} {tgt : Nat} {off : Int} (hx : p.tables.exec = Jvm.exec) (hb : c.code = cc) (hdg : decode cc pc = .ok (.ifCond .ge off, 3)) (ht : (pc : Int) + off = (tgt : Int)) (kt : y ≤ x → W p l e Rm s m args below meth c H locs cells slots Q (F0 m tgt ls rest)) (kf : ¬ y ≤ x → W p l e Rm s m args below meth c H locs cells slots Q (F0 m (pc + 3) ls rest)) : W p l e Rm s m args below meth c H locs cells slots Q (F0 m pc ls (.int (lg_cmp x y) :: rest)) := by
  refine lv_if_ge hx hb hdg ht (fun h => kt ?_) (fun h => kf ?_)
  all_goals (rcases cmp_3 x y with ⟨e, h'⟩ | ⟨e, h'⟩ | ⟨e, h'⟩ <;> rw [e] at h <;> first | exact absurd h (by decide) | (simp only [Int64.lt_iff_toInt_lt, Int64.le_iff_toInt_le, ← Int64.toInt_inj]; omega))
theorem q_Lgt {x y : Int64} {tgt : Nat} {off : Int} (hx : p.tables.exec = Jvm.exec) (hb : c.code = cc) (hdg : decode cc pc = .ok (.ifCond .gt off, 3)) (ht : (pc : Int) + off = (tgt : Int)) (kt : y < x → W p l e Rm s m args below meth c H locs cells slots Q (F0 m tgt ls rest)) (kf : ¬ y < x → W p l e Rm s m args below meth c H locs cells slots Q (F0 m (pc + 3) ls rest)) : W p l e Rm s m args below meth c H locs cells slots Q (F0 m pc ls (.int (lg_cmp x y) :: rest)) := by
  refine lv_if_gt hx hb hdg ht (fun h => kt ?_) (fun h => kf ?_)
  all_goals (rcases cmp_3 x y with ⟨e, h'⟩ | ⟨e, h'⟩ | ⟨e, h'⟩ <;> rw [e] at h <;> first | exact absurd h (by decide) | (simp only [Int64.lt_iff_toInt_lt, Int64.le_iff_toInt_le, ← Int64.toInt_inj]; omega))
theorem q_Lle {x y : Int64} {tgt : Nat} {off : Int} (hx : p.tables.exec = Jvm.exec) (hb : c.code = cc) (hdg : decode cc pc = .ok (.ifCond .le off, 3)) (ht : (pc : Int) + off = (tgt : Int)) (kt : x ≤ y → W p l e Rm s m args below meth c H locs cells slots Q (F0 m tgt ls rest)) (kf : ¬ x ≤ y → W p l e Rm s m args below meth c H locs cells slots Q (F0 m (pc + 3) ls rest)) : W p l e Rm s m args below meth c H locs cells slots Q (F0 m pc ls (.int (lg_cmp x y) :: rest)) := by
  refine lv_if_le hx hb hdg ht (fun h => kt ?_) (fun h => kf ?_)
  all_goals (rcases cmp_3 x y with ⟨e, h'⟩ | ⟨e, h'⟩ | ⟨e, h'⟩ <;> rw [e] at h <;> first | exact absurd h (by decide) | (simp only [Int64.lt_iff_toInt_lt, Int64.le_iff_toInt_le, ← Int64.toInt_inj]; omega))
theorem q_Leq {x y : Int64} {tgt : Nat} {off : Int} (hx : p.tables.exec = Jvm.exec) (hb : c.code = cc) (hdg : decode cc pc = .ok (.ifCond .eq off, 3)) (ht : (pc : Int) + off = (tgt : Int)) (kt : x = y → W p l e Rm s m args below meth c H locs cells slots Q (F0 m tgt ls rest)) (kf : ¬ x = y → W p l e Rm s m args below meth c H locs cells slots Q (F0 m (pc + 3) ls rest)) : W p l e Rm s m args below meth c H locs cells slots Q (F0 m pc ls (.int (lg_cmp x y) :: rest)) := by
  refine lv_if_eq hx hb hdg ht (fun h => kt ?_) (fun h => kf ?_)
  all_goals (rcases cmp_3 x y with ⟨e, h'⟩ | ⟨e, h'⟩ | ⟨e, h'⟩ <;> rw [e] at h <;> first | exact absurd h (by decide) | (simp only [Int64.lt_iff_toInt_lt, Int64.le_iff_toInt_le, ← Int64.toInt_inj]; omega))
theorem q_Lne {x y : Int64} {tgt : Nat} {off : Int} (hx : p.tables.exec = Jvm.exec) (hb : c.code = cc) (hdg : decode cc pc = .ok (.ifCond .ne off, 3)) (ht : (pc : Int) + off = (tgt : Int)) (kt : ¬ x = y → W p l e Rm s m args below meth c H locs cells slots Q (F0 m tgt ls rest)) (kf : x = y → W p l e Rm s m args below meth c H locs cells slots Q (F0 m (pc + 3) ls rest)) : W p l e Rm s m args below meth c H locs cells slots Q (F0 m pc ls (.int (lg_cmp x y) :: rest)) := by
  refine lv_if_ne hx hb hdg ht (fun h => kt ?_) (fun h => kf ?_)
  all_goals (rcases cmp_3 x y with ⟨e, h'⟩ | ⟨e, h'⟩ | ⟨e, h'⟩ <;> rw [e] at h <;> first | exact absurd h (by decide) | (simp only [Int64.lt_iff_toInt_lt, Int64.le_iff_toInt_le, ← Int64.toInt_inj]; omega))
theorem q_llt {a b tgt : Nat} {off : Int} (hx : p.tables.exec = Jvm.exec) (hb : c.code = cc) (hdg : decode cc pc = .ok (.ifCond .lt off, 3)) (ht : (pc : Int) + off = (tgt : Int)) (ha : a < 2 ^ 63) (hb2 : b < 2 ^ 63) (kt : a < b → W p l e Rm s m args below meth c H locs cells slots Q (F0 m tgt ls rest)) (kf : b ≤ a → W p l e Rm s m args below meth c H locs cells slots Q (F0 m (pc + 3) ls rest)) : W p l e Rm s m args below meth c H locs cells slots Q (F0 m pc ls (.int (lg_cmp (lN a) (lN b)) :: rest)) := by
  refine q_Llt hx hb hdg ht (fun h => kt ?_) (fun h => kf ?_)
  all_goals (simp only [pk_lLT ha hb2, pk_lLE ha hb2, pk_lLT hb2 ha, pk_lLE hb2 ha, pk_lEQ ha hb2] at h)
  all_goals omega
theorem q_lge {a b tgt : Nat} {off : Int} (hx : p.tables.exec = Jvm.exec) (hb : c.code = cc) (hdg : decode cc pc = .ok (.ifCond .ge off, 3)) (ht : (pc : Int) + off = (tgt : Int)) (ha : a < 2 ^ 63) (hb2 : b < 2 ^ 63) (kt : b ≤ a → W p l e Rm s m args below meth c H locs cells slots Q (F0 m tgt ls rest)) (kf : a < b → W p l e Rm s m args below meth c H locs cells slots Q (F0 m (pc + 3) ls rest)) : W p l e Rm s m args below meth c H locs cells slots Q (F0 m pc ls (.int (lg_cmp (lN a) (lN b)) :: rest)) := by
  refine q_Lge hx hb hdg ht (fun h => kt ?_) (fun h => kf ?_)
  all_goals (simp only [pk_lLT ha hb2, pk_lLE ha hb2, pk_lLT hb2 ha, pk_lLE hb2 ha, pk_lEQ ha hb2] at h)
  all_goals omega
theorem q_lgt {a b tgt : Nat} {off : Int} (hx : p.tables.exec = Jvm.exec) (hb : c.code = cc) (hdg : decode cc pc = .ok (.ifCond .gt off, 3)) (ht : (pc : Int) + off = (tgt : Int)) (ha : a < 2 ^ 63) (hb2 : b < 2 ^ 63) (kt : b < a → W p l e Rm s m args below meth c H locs cells slots Q (F0 m tgt ls rest)) (kf : a ≤ b → W p l e Rm s m args below meth c H locs cells slots Q (F0 m (pc + 3) ls rest)) : W p l e Rm s m args below meth c H locs cells slots Q (F0 m pc ls (.int (lg_cmp (lN a) (lN b)) :: rest)) := by
  refine q_Lgt hx hb hdg ht (fun h => kt ?_) (fun h => kf ?_)
  all_goals (simp only [pk_lLT ha hb2, pk_lLE ha hb2, pk_lLT hb2 ha, pk_lLE hb2 ha, pk_lEQ ha hb2] at h)
  all_goals omega
theorem q_lle {a b tgt : Nat} {off : Int} (hx : p.tables.exec = Jvm.exec) (hb : c.code = cc) (hdg : decode cc pc = .ok (.ifCond .le off, 3)) (ht : (pc : Int) + off = (tgt : Int)) (ha : a < 2 ^ 63) (hb2 : b < 2 ^ 63) (kt : a ≤ b → W p l e Rm s m args below meth c H locs cells slots Q (F0 m tgt ls rest)) (kf : b < a → W p l e Rm s m args below meth c H locs cells slots Q (F0 m (pc + 3) ls rest)) : W p l e Rm s m args below meth c H locs cells slots Q (F0 m pc ls (.int (lg_cmp (lN a) (lN b)) :: rest)) := by
  refine q_Lle hx hb hdg ht (fun h => kt ?_) (fun h => kf ?_)
  all_goals (simp only [pk_lLT ha hb2, pk_lLE ha hb2, pk_lLT hb2 ha, pk_lLE hb2 ha, pk_lEQ ha hb2] at h)
  all_goals omega
theorem q_leq {a b tgt : Nat} {off : Int} (hx : p.tables.exec = Jvm.exec) (hb : c.code = cc) (hdg : decode cc pc = .ok (.ifCond .eq off, 3)) (ht : (pc : Int) + off = (tgt : Int)) (ha : a < 2 ^ 63) (hb2 : b < 2 ^ 63) (kt : a = b → W p l e Rm s m args below meth c H locs cells slots Q (F0 m tgt ls rest)) (kf : a ≠ b → W p l e Rm s m args below meth c H locs cells slots Q (F0 m (pc + 3) ls rest)) : W p l e Rm s m args below meth c H locs cells slots Q (F0 m pc ls (.int (lg_cmp (lN a) (lN b)) :: rest)) := by
  refine q_Leq hx hb hdg ht (fun h => kt ?_) (fun h => kf ?_)
  all_goals (simp only [pk_lLT ha hb2, pk_lLE ha hb2, pk_lLT hb2 ha, pk_lLE hb2 ha, pk_lEQ ha hb2] at h)
  all_goals omega
theorem q_lne {a b tgt : Nat} {off : Int} (hx : p.tables.exec = Jvm.exec) (hb : c.code = cc) (hdg : decode cc pc = .ok (.ifCond .ne off, 3)) (ht : (pc : Int) + off = (tgt : Int)) (ha : a < 2 ^ 63) (hb2 : b < 2 ^ 63) (kt : a ≠ b → W p l e Rm s m args below meth c H locs cells slots Q (F0 m tgt ls rest)) (kf : a = b → W p l e Rm s m args below meth c H locs cells slots Q (F0 m (pc + 3) ls rest)) : W p l e Rm s m args below meth c H locs cells slots Q (F0 m pc ls (.int (lg_cmp (lN a) (lN b)) :: rest)) := by
  refine q_Lne hx hb hdg ht (fun h => kt ?_) (fun h => kf ?_)
  all_goals (simp only [pk_lLT ha hb2, pk_lLE ha hb2, pk_lLT hb2 ha, pk_lLE hb2 ha, pk_lEQ ha hb2] at h)
  all_goals omega
end QL
