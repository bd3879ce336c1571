theorem yq_X0_forget : mwY yX0_forget cX0_forget 1 none 0 := ⟨kw_212, kw_55, by decide +kernel⟩
theorem yq_X0_holds : mwY yX0_holds cX0_holds 5 (some .int) 1 := ⟨kw_519, kw_55, by decide +kernel⟩
theorem yq_X0_howManyKept : mwY yX0_howManyKept cX0_howManyKept 1 (some .int) 0 := ⟨kw_598, kw_55, by decide +kernel⟩
theorem yq_X0_init : mwY yX0_init cX0_init 3 none 2 := ⟨kw_86, kw_55, by decide +kernel⟩
theorem yq_X0_join : mwY yX0_join cX0_join 4 none 1 := ⟨kw_392, kw_55, by decide +kernel⟩
theorem yq_X0_keptAt : mwY yX0_keptAt cX0_keptAt 3 (some .int) 2 := ⟨kw_629, kw_55, by decide +kernel⟩
theorem yq_X0_take : mwY yX0_take cX0_take 5 none 2 := ⟨kw_261, kw_55, by decide +kernel⟩
theorem yq_X0_twin : mwY yX0_twin cX0_twin 2 (some (.object "SketchSpans$Sketch")) 0 := ⟨kw_131, kw_55, by decide +kernel⟩
theorem yq_X1_add : mwY yX1_add cX1_add 5 none 2 := ⟨kw_289, kw_49, by decide +kernel⟩
theorem yq_X1_atLeast : mwY yX1_atLeast cX1_atLeast 3 (some .int) 1 := ⟨kw_446, kw_49, by decide +kernel⟩
theorem yq_X1_atMost : mwY yX1_atMost cX1_atMost 2 (some .int) 1 := ⟨kw_491, kw_49, by decide +kernel⟩
theorem yq_X1_firstNumberTooMany : mwY yX1_firstNumberTooMany cX1_firstNumberTooMany 3 (some .int) 0 := ⟨kw_401, kw_49, by decide +kernel⟩
theorem yq_X1_forget : mwY yX1_forget cX1_forget 1 none 0 := ⟨kw_217, kw_49, by decide +kernel⟩
theorem yq_X1_howManyKept : mwY yX1_howManyKept cX1_howManyKept 1 (some .int) 0 := ⟨kw_603, kw_49, by decide +kernel⟩
theorem yq_X1_howManyNotBelow : mwY yX1_howManyNotBelow cX1_howManyNotBelow 4 (some .int) 1 := ⟨kw_405, kw_49, by decide +kernel⟩
theorem yq_X1_init : mwY yX1_init cX1_init 3 none 2 := ⟨kw_64, kw_49, by decide +kernel⟩
theorem yq_X1_join : mwY yX1_join cX1_join 4 none 1 := ⟨kw_396, kw_49, by decide +kernel⟩
theorem yq_X1_keptAt : mwY yX1_keptAt cX1_keptAt 3 (some .int) 2 := ⟨kw_632, kw_49, by decide +kernel⟩
theorem yq_X1_leastNumber : mwY yX1_leastNumber cX1_leastNumber 4 (some .int) 1 := ⟨kw_278, kw_49, by decide +kernel⟩
theorem yq_X1_lower : mwY yX1_lower cX1_lower 4 none 1 := ⟨kw_285, kw_49, by decide +kernel⟩
theorem yq_X1_mayLack : mwY yX1_mayLack cX1_mayLack 1 (some .int) 0 := ⟨kw_588, kw_49, by decide +kernel⟩
theorem yq_X1_take : mwY yX1_take cX1_take 5 none 2 := ⟨kw_270, kw_49, by decide +kernel⟩
theorem yq_X1_twin : mwY yX1_twin cX1_twin 2 (some (.object "SketchSpans$Sketch")) 0 := ⟨kw_147, kw_49, by decide +kernel⟩
theorem yq_X2_add : mwY yX2_add cX2_add 4 none 1 := ⟨kw_296, kw_58, by decide +kernel⟩
theorem yq_X2_differentKeys : mwY yX2_differentKeys cX2_differentKeys 2 (some .int) 0 := ⟨kw_545, kw_58, by decide +kernel⟩
theorem yq_X2_forget : mwY yX2_forget cX2_forget 1 none 0 := ⟨kw_220, kw_58, by decide +kernel⟩
theorem yq_X2_holds : mwY yX2_holds cX2_holds 3 (some .int) 1 := ⟨kw_525, kw_58, by decide +kernel⟩
theorem yq_X2_howManyKept : mwY yX2_howManyKept cX2_howManyKept 1 (some .int) 0 := ⟨kw_606, kw_58, by decide +kernel⟩
theorem yq_X2_init : mwY yX2_init cX2_init 3 none 2 := ⟨kw_91, kw_58, by decide +kernel⟩
theorem yq_X2_join : mwY yX2_join cX2_join 4 none 1 := ⟨kw_408, kw_58, by decide +kernel⟩
theorem yq_X2_keptAt : mwY yX2_keptAt cX2_keptAt 3 (some .int) 2 := ⟨kw_635, kw_58, by decide +kernel⟩
theorem yq_X2_take : mwY yX2_take cX2_take 3 none 2 := ⟨kw_292, kw_58, by decide +kernel⟩
theorem yq_X2_twin : mwY yX2_twin cX2_twin 2 (some (.object "SketchSpans$Sketch")) 0 := ⟨kw_159, kw_58, by decide +kernel⟩
theorem yq_X3_atLeast : mwY yX3_atLeast cX3_atLeast 2 (some .int) 1 := ⟨kw_450, kw_61, by decide +kernel⟩
theorem yq_X3_atMost : mwY yX3_atMost cX3_atMost 2 (some .int) 1 := ⟨kw_497, kw_61, by decide +kernel⟩
theorem yq_X3_collapse : mwY yX3_collapse cX3_collapse 4 none 1 := ⟨kw_308, kw_61, by decide +kernel⟩
theorem yq_X3_forget : mwY yX3_forget cX3_forget 1 none 0 := ⟨kw_223, kw_61, by decide +kernel⟩
theorem yq_X3_howManyKept : mwY yX3_howManyKept cX3_howManyKept 3 (some .int) 0 := ⟨kw_609, kw_61, by decide +kernel⟩
theorem yq_X3_init : mwY yX3_init cX3_init 3 none 2 := ⟨kw_97, kw_61, by decide +kernel⟩
theorem yq_X3_join : mwY yX3_join cX3_join 5 none 1 := ⟨kw_412, kw_61, by decide +kernel⟩
theorem yq_X3_keptAt : mwY yX3_keptAt cX3_keptAt 3 (some .int) 2 := ⟨kw_638, kw_61, by decide +kernel⟩
theorem yq_X3_keyAt : mwY yX3_keyAt cX3_keyAt 4 (some .int) 2 := ⟨kw_316, kw_61, by decide +kernel⟩
theorem yq_X3_keyAtRank : mwY yX3_keyAtRank cX3_keyAtRank 6 (some .int) 1 := ⟨kw_567, kw_61, by decide +kernel⟩
theorem yq_X3_mayLack : mwY yX3_mayLack cX3_mayLack 1 (some .int) 0 := ⟨kw_592, kw_61, by decide +kernel⟩
theorem yq_X3_mayTake : mwY yX3_mayTake cX3_mayTake 2 (some .boolean) 1 := ⟨kw_253, kw_61, by decide +kernel⟩
theorem yq_X3_push : mwY yX3_push cX3_push 3 none 2 := ⟨kw_304, kw_61, by decide +kernel⟩
theorem yq_X3_sortBuffer : mwY yX3_sortBuffer cX3_sortBuffer 6 none 1 := ⟨kw_312, kw_61, by decide +kernel⟩
theorem yq_X3_take : mwY yX3_take cX3_take 4 none 2 := ⟨kw_300, kw_61, by decide +kernel⟩
theorem yq_X3_twin : mwY yX3_twin cX3_twin 2 (some (.object "SketchSpans$Sketch")) 0 := ⟨kw_171, kw_61, by decide +kernel⟩
theorem yq_X3_weightUpTo : mwY yX3_weightUpTo cX3_weightUpTo 5 (some .int) 1 := ⟨kw_457, kw_61, by decide +kernel⟩
theorem yq_X4_atLeast : mwY yX4_atLeast cX4_atLeast 2 (some .int) 1 := ⟨kw_442, kw_71, by decide +kernel⟩
theorem yq_X4_atMost : mwY yX4_atMost cX4_atMost 2 (some .int) 1 := ⟨kw_487, kw_71, by decide +kernel⟩
theorem yq_X4_copyTotals : mwY yX4_copyTotals cX4_copyTotals 2 none 1 := ⟨kw_142, kw_71, by decide +kernel⟩
theorem yq_X4_differentKeys : mwY yX4_differentKeys cX4_differentKeys 1 (some .int) 0 := ⟨kw_540, kw_71, by decide +kernel⟩
theorem yq_X4_holds : mwY yX4_holds cX4_holds 2 (some .int) 1 := ⟨kw_520, kw_71, by decide +kernel⟩
theorem yq_X4_init : mwY yX4_init cX4_init 4 none 3 := ⟨kw_72, kw_71, by decide +kernel⟩
theorem yq_X4_isLike : mwY yX4_isLike cX4_isLike 2 (some .boolean) 1 := ⟨kw_383, kw_71, by decide +kernel⟩
theorem yq_X4_keyAtRank : mwY yX4_keyAtRank cX4_keyAtRank 2 (some .int) 1 := ⟨kw_561, kw_71, by decide +kernel⟩
theorem yq_X4_mayLack : mwY yX4_mayLack cX4_mayLack 1 (some .int) 0 := ⟨kw_584, kw_71, by decide +kernel⟩
theorem yq_X4_mayTake : mwY yX4_mayTake cX4_mayTake 2 (some .boolean) 1 := ⟨kw_247, kw_71, by decide +kernel⟩
theorem yq_X5_atMost : mwY yX5_atMost cX5_atMost 5 (some .int) 1 := ⟨kw_503, kw_52, by decide +kernel⟩
theorem yq_X5_forget : mwY yX5_forget cX5_forget 1 none 0 := ⟨kw_226, kw_52, by decide +kernel⟩
theorem yq_X5_howManyKept : mwY yX5_howManyKept cX5_howManyKept 1 (some .int) 0 := ⟨kw_612, kw_52, by decide +kernel⟩
theorem yq_X5_init : mwY yX5_init cX5_init 3 none 2 := ⟨kw_81, kw_52, by decide +kernel⟩
theorem yq_X5_join : mwY yX5_join cX5_join 4 none 1 := ⟨kw_416, kw_52, by decide +kernel⟩
theorem yq_X5_keptAt : mwY yX5_keptAt cX5_keptAt 3 (some .int) 2 := ⟨kw_641, kw_52, by decide +kernel⟩
theorem yq_X5_mayTake : mwY yX5_mayTake cX5_mayTake 2 (some .boolean) 1 := ⟨kw_256, kw_52, by decide +kernel⟩
theorem yq_X5_placeIn : mwY yX5_placeIn cX5_placeIn 3 (some .int) 2 := ⟨kw_323, kw_52, by decide +kernel⟩
theorem yq_X5_take : mwY yX5_take cX5_take 5 none 2 := ⟨kw_319, kw_52, by decide +kernel⟩
theorem yq_X5_twin : mwY yX5_twin cX5_twin 2 (some (.object "SketchSpans$Sketch")) 0 := ⟨kw_183, kw_52, by decide +kernel⟩
theorem yq_X6_clear : mwY yX6_clear cX6_clear 4 (some .int) 1 := ⟨kw_204, kw_2, by decide +kernel⟩
theorem yq_X6_clearRow : mwY yX6_clearRow cX6_clearRow 2 none 1 := ⟨kw_214, kw_2, by decide +kernel⟩
theorem yq_X6_come : mwY yX6_come cX6_come 5 (some .int) 3 := ⟨kw_235, kw_2, by decide +kernel⟩
theorem yq_X6_copy : mwY yX6_copy cX6_copy 3 (some .int) 1 := ⟨kw_122, kw_2, by decide +kernel⟩
theorem yq_X6_copyRow : mwY yX6_copyRow cX6_copyRow 3 none 2 := ⟨kw_144, kw_2, by decide +kernel⟩
theorem yq_X6_count : mwY yX6_count cX6_count 1 (some .int) 0 := ⟨kw_653, kw_2, by decide +kernel⟩
theorem yq_X6_countNotZero : mwY yX6_countNotZero cX6_countNotZero 3 (some .int) 1 := ⟨kw_600, kw_2, by decide +kernel⟩
theorem yq_X6_distinct : mwY yX6_distinct cX6_distinct 3 (some .int) 1 := ⟨kw_535, kw_2, by decide +kernel⟩
theorem yq_X6_find : mwY yX6_find cX6_find 2 (some (.object "SketchSpans$Sketch")) 1 := ⟨kw_126, kw_2, by decide +kernel⟩
theorem yq_X6_has : mwY yX6_has cX6_has 4 (some .int) 2 := ⟨kw_513, kw_2, by decide +kernel⟩
theorem yq_X6_hash : mwY yX6_hash cX6_hash 4 (some .int) 3 := ⟨kw_429, kw_2, by decide +kernel⟩
theorem yq_X6_hashOf : mwY yX6_hashOf cX6_hashOf 3 (some .int) 3 := ⟨kw_266, kw_2, by decide +kernel⟩
theorem yq_X6_high : mwY yX6_high cX6_high 4 (some .int) 2 := ⟨kw_482, kw_2, by decide +kernel⟩
theorem yq_X6_init : mwY yX6_init cX6_init 1 none 0 := ⟨kw_8, kw_2, by decide +kernel⟩
theorem yq_X6_isKey : mwY yX6_isKey cX6_isKey 1 (some .boolean) 1 := ⟨kw_242, kw_2, by decide +kernel⟩
theorem yq_X6_isSeed : mwY yX6_isSeed cX6_isSeed 1 (some .boolean) 1 := ⟨kw_43, kw_2, by decide +kernel⟩
theorem yq_X6_isSize : mwY yX6_isSize cX6_isSize 2 (some .boolean) 2 := ⟨kw_38, kw_2, by decide +kernel⟩
theorem yq_X6_isSort : mwY yX6_isSort cX6_isSort 1 (some .boolean) 1 := ⟨kw_35, kw_2, by decide +kernel⟩
theorem yq_X6_keep : mwY yX6_keep cX6_keep 2 (some .int) 1 := ⟨kw_106, kw_2, by decide +kernel⟩
theorem yq_X6_kept : mwY yX6_kept cX6_kept 5 (some .int) 3 := ⟨kw_624, kw_2, by decide +kernel⟩
theorem yq_X6_low : mwY yX6_low cX6_low 4 (some .int) 2 := ⟨kw_437, kw_2, by decide +kernel⟩
theorem yq_X6_merge : mwY yX6_merge cX6_merge 5 (some .int) 2 := ⟨kw_378, kw_2, by decide +kernel⟩
theorem yq_X6_newSketch : mwY yX6_newSketch cX6_newSketch 3 (some (.object "SketchSpans$Sketch")) 3 := ⟨kw_46, kw_2, by decide +kernel⟩
theorem yq_X6_placeFor : mwY yX6_placeFor cX6_placeFor 4 (some .int) 3 := ⟨kw_272, kw_2, by decide +kernel⟩
theorem yq_X6_placeOf : mwY yX6_placeOf cX6_placeOf 4 (some .int) 4 := ⟨kw_263, kw_2, by decide +kernel⟩
theorem yq_X6_quantile : mwY yX6_quantile cX6_quantile 4 (some .int) 2 := ⟨kw_556, kw_2, by decide +kernel⟩
theorem yq_X6_sketch : mwY yX6_sketch cX6_sketch 4 (some .int) 3 := ⟨kw_32, kw_2, by decide +kernel⟩
theorem yq_X6_standsAt : mwY yX6_standsAt cX6_standsAt 4 (some .boolean) 4 := ⟨kw_274, kw_2, by decide +kernel⟩
theorem yq_X6_told : mwY yX6_told cX6_told 4 (some .int) 2 := ⟨kw_576, kw_2, by decide +kernel⟩
theorem yq_X7_add : mwY yX7_add cX7_add 5 none 3 := ⟨kw_351, kw_5, by decide +kernel⟩
theorem yq_X7_at : mwY yX7_at cX7_at 3 (some .int) 2 := ⟨kw_347, kw_5, by decide +kernel⟩
theorem yq_X7_cell : mwY yX7_cell cX7_cell 5 (some .int) 3 := ⟨kw_359, kw_5, by decide +kernel⟩
theorem yq_X7_clear : mwY yX7_clear cX7_clear 3 (some .int) 1 := ⟨kw_230, kw_5, by decide +kernel⟩
theorem yq_X7_come : mwY yX7_come cX7_come 6 (some .int) 3 := ⟨kw_327, kw_5, by decide +kernel⟩
theorem yq_X7_comeHeavy : mwY yX7_comeHeavy cX7_comeHeavy 7 none 3 := ⟨kw_335, kw_5, by decide +kernel⟩
theorem yq_X7_comeOnce : mwY yX7_comeOnce cX7_comeOnce 5 none 3 := ⟨kw_331, kw_5, by decide +kernel⟩
theorem yq_X7_copy : mwY yX7_copy cX7_copy 4 (some .int) 1 := ⟨kw_196, kw_5, by decide +kernel⟩
theorem yq_X7_count : mwY yX7_count cX7_count 1 (some .int) 0 := ⟨kw_657, kw_5, by decide +kernel⟩
theorem yq_X7_counterOf : mwY yX7_counterOf cX7_counterOf 4 (some .int) 2 := ⟨kw_339, kw_5, by decide +kernel⟩
theorem yq_X7_distinct : mwY yX7_distinct cX7_distinct 4 (some .int) 1 := ⟨kw_552, kw_5, by decide +kernel⟩
theorem yq_X7_empty : mwY yX7_empty cX7_empty 3 none 1 := ⟨kw_118, kw_5, by decide +kernel⟩
theorem yq_X7_has : mwY yX7_has cX7_has 6 (some .int) 2 := ⟨kw_531, kw_5, by decide +kernel⟩
theorem yq_X7_hash : mwY yX7_hash cX7_hash 4 (some .int) 3 := ⟨kw_433, kw_5, by decide +kernel⟩
theorem yq_X7_hashOf : mwY yX7_hashOf cX7_hashOf 3 (some .int) 3 := ⟨kw_362, kw_5, by decide +kernel⟩
theorem yq_X7_high : mwY yX7_high cX7_high 5 (some .int) 2 := ⟨kw_509, kw_5, by decide +kernel⟩
theorem yq_X7_in : mwY yX7_in cX7_in 3 (some .boolean) 3 := ⟨kw_114, kw_5, by decide +kernel⟩
theorem yq_X7_init : mwY yX7_init cX7_init 1 none 0 := ⟨kw_17, kw_5, by decide +kernel⟩
theorem yq_X7_isBad : mwY yX7_isBad cX7_isBad 4 (some .boolean) 3 := ⟨kw_470, kw_5, by decide +kernel⟩
theorem yq_X7_isOf : mwY yX7_isOf cX7_isOf 4 (some .boolean) 3 := ⟨kw_466, kw_5, by decide +kernel⟩
theorem yq_X7_joinHeavy : mwY yX7_joinHeavy cX7_joinHeavy 7 none 2 := ⟨kw_425, kw_5, by decide +kernel⟩
theorem yq_X7_keep : mwY yX7_keep cX7_keep 6 none 2 := ⟨kw_367, kw_5, by decide +kernel⟩
theorem yq_X7_kept : mwY yX7_kept cX7_kept 5 (some .int) 3 := ⟨kw_645, kw_5, by decide +kernel⟩
theorem yq_X7_keptOf : mwY yX7_keptOf cX7_keptOf 4 (some .int) 1 := ⟨kw_620, kw_5, by decide +kernel⟩
theorem yq_X7_keyAt : mwY yX7_keyAt cX7_keyAt 4 (some .int) 3 := ⟨kw_374, kw_5, by decide +kernel⟩
theorem yq_X7_lessen : mwY yX7_lessen cX7_lessen 6 none 2 := ⟨kw_355, kw_5, by decide +kernel⟩
theorem yq_X7_low : mwY yX7_low cX7_low 4 (some .int) 2 := ⟨kw_462, kw_5, by decide +kernel⟩
theorem yq_X7_many : mwY yX7_many cX7_many 2 (some .int) 1 := ⟨kw_343, kw_5, by decide +kernel⟩
theorem yq_X7_merge : mwY yX7_merge cX7_merge 6 (some .int) 2 := ⟨kw_421, kw_5, by decide +kernel⟩
theorem yq_X7_none : mwY yX7_none cX7_none 2 (some .boolean) 1 := ⟨kw_200, kw_5, by decide +kernel⟩
theorem yq_X7_nth : mwY yX7_nth cX7_nth 7 (some .int) 3 := ⟨kw_649, kw_5, by decide +kernel⟩
theorem yq_X7_numberOf : mwY yX7_numberOf cX7_numberOf 4 (some .int) 2 := ⟨kw_474, kw_5, by decide +kernel⟩
theorem yq_X7_put : mwY yX7_put cX7_put 9 none 4 := ⟨kw_370, kw_5, by decide +kernel⟩
theorem yq_X7_quantile : mwY yX7_quantile cX7_quantile 6 (some .int) 2 := ⟨kw_572, kw_5, by decide +kernel⟩
theorem yq_X7_sketch : mwY yX7_sketch cX7_sketch 5 (some .int) 3 := ⟨kw_110, kw_5, by decide +kernel⟩
theorem yq_X7_told : mwY yX7_told cX7_told 3 (some .int) 2 := ⟨kw_616, kw_5, by decide +kernel⟩
theorem yq_X7_weightTo : mwY yX7_weightTo cX7_weightTo 6 (some .int) 2 := ⟨kw_478, kw_5, by decide +kernel⟩
theorem dq_twin : ∀ (s : State) (args : Array Value), (∀ w ∈ TT, w.before args s = true) → (∀ w ∈ NT, va_Nw w s) → va_Decl s ⟨"SketchSpans$Sketch", "twin", "()LSketchSpans$Sketch;"⟩ := fun s args h1 h2 => va_Decl.abs (h2 _ kn_0)
theorem dq_forget : ∀ (s : State) (args : Array Value), (∀ w ∈ TT, w.before args s = true) → (∀ w ∈ NT, va_Nw w s) → va_Decl s ⟨"SketchSpans$Sketch", "forget", "()V"⟩ := fun s args h1 h2 => va_Decl.abs (h2 _ kn_7)
theorem dq_take : ∀ (s : State) (args : Array Value), (∀ w ∈ TT, w.before args s = true) → (∀ w ∈ NT, va_Nw w s) → va_Decl s ⟨"SketchSpans$Sketch", "take", "(II)V"⟩ := fun s args h1 h2 => va_Decl.abs (h2 _ kn_11)
theorem dq_join : ∀ (s : State) (args : Array Value), (∀ w ∈ TT, w.before args s = true) → (∀ w ∈ NT, va_Nw w s) → va_Decl s ⟨"SketchSpans$Sketch", "join", "(LSketchSpans$Sketch;)V"⟩ := fun s args h1 h2 => va_Decl.abs (h2 _ kn_19)
theorem dq_howManyKept : ∀ (s : State) (args : Array Value), (∀ w ∈ TT, w.before args s = true) → (∀ w ∈ NT, va_Nw w s) → va_Decl s ⟨"SketchSpans$Sketch", "howManyKept", "()I"⟩ := fun s args h1 h2 => va_Decl.abs (h2 _ kn_20)
theorem dq_keptAt : ∀ (s : State) (args : Array Value), (∀ w ∈ TT, w.before args s = true) → (∀ w ∈ NT, va_Nw w s) → va_Decl s ⟨"SketchSpans$Sketch", "keptAt", "(II)I"⟩ := fun s args h1 h2 => va_Decl.abs (h2 _ kn_23)
theorem dq_atLeast : ∀ (s : State) (args : Array Value), (∀ w ∈ TT, w.before args s = true) → (∀ w ∈ NT, va_Nw w s) → va_Decl s ⟨"SketchSpans$Sketch", "atLeast", "(I)I"⟩ := fun s args h1 h2 => va_Decl.of (h1 _ kw_441) (h1 _ kw_442)
theorem dq_atMost : ∀ (s : State) (args : Array Value), (∀ w ∈ TT, w.before args s = true) → (∀ w ∈ NT, va_Nw w s) → va_Decl s ⟨"SketchSpans$Sketch", "atMost", "(I)I"⟩ := fun s args h1 h2 => va_Decl.of (h1 _ kw_486) (h1 _ kw_487)
theorem dq_copyTotals : ∀ (s : State) (args : Array Value), (∀ w ∈ TT, w.before args s = true) → (∀ w ∈ NT, va_Nw w s) → va_Decl s ⟨"SketchSpans$Sketch", "copyTotals", "(LSketchSpans$Sketch;)V"⟩ := fun s args h1 h2 => va_Decl.of (h1 _ kw_141) (h1 _ kw_142)
theorem dq_differentKeys : ∀ (s : State) (args : Array Value), (∀ w ∈ TT, w.before args s = true) → (∀ w ∈ NT, va_Nw w s) → va_Decl s ⟨"SketchSpans$Sketch", "differentKeys", "()I"⟩ := fun s args h1 h2 => va_Decl.of (h1 _ kw_539) (h1 _ kw_540)
theorem dq_holds : ∀ (s : State) (args : Array Value), (∀ w ∈ TT, w.before args s = true) → (∀ w ∈ NT, va_Nw w s) → va_Decl s ⟨"SketchSpans$Sketch", "holds", "(I)I"⟩ := fun s args h1 h2 => va_Decl.of (h1 _ kw_522) (h1 _ kw_520)
theorem dq_isLike : ∀ (s : State) (args : Array Value), (∀ w ∈ TT, w.before args s = true) → (∀ w ∈ NT, va_Nw w s) → va_Decl s ⟨"SketchSpans$Sketch", "isLike", "(LSketchSpans$Sketch;)Z"⟩ := fun s args h1 h2 => va_Decl.of (h1 _ kw_382) (h1 _ kw_383)
theorem dq_keyAtRank : ∀ (s : State) (args : Array Value), (∀ w ∈ TT, w.before args s = true) → (∀ w ∈ NT, va_Nw w s) → va_Decl s ⟨"SketchSpans$Sketch", "keyAtRank", "(I)I"⟩ := fun s args h1 h2 => va_Decl.of (h1 _ kw_560) (h1 _ kw_561)
theorem dq_mayLack : ∀ (s : State) (args : Array Value), (∀ w ∈ TT, w.before args s = true) → (∀ w ∈ NT, va_Nw w s) → va_Decl s ⟨"SketchSpans$Sketch", "mayLack", "()I"⟩ := fun s args h1 h2 => va_Decl.of (h1 _ kw_583) (h1 _ kw_584)
theorem dq_mayTake : ∀ (s : State) (args : Array Value), (∀ w ∈ TT, w.before args s = true) → (∀ w ∈ NT, va_Nw w s) → va_Decl s ⟨"SketchSpans$Sketch", "mayTake", "(I)Z"⟩ := fun s args h1 h2 => va_Decl.of (h1 _ kw_246) (h1 _ kw_247)
abbrev rmL (k : Nat) : Room := { frames := k, cells := 0, slots := 0, locals := 40 * k }
abbrev rmA (k c s : Nat) : Room := { frames := k, cells := c, slots := s, locals := 40 * k }
