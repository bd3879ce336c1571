-- the words that a method's steps use: all good words of the tables
def TT : List Cond := lw_tbl.filter goodWord
theorem tt_of {w : Cond} (h1 : w ∈ lw_tbl) (h2 : goodWord w = true) : w ∈ TT := List.mem_filter.mpr ⟨h1, h2⟩
theorem tt_good : GoodIn lw_tbl TT := fun w h => ⟨(List.mem_filter.mp h).1, good_of_word (List.mem_filter.mp h).2⟩
theorem tt_t {w : Cond} (h1 : w ∈ tables_1) (h2 : goodWord w = true) : w ∈ TT := tt_of (List.mem_append_right _ h1) h2
theorem tt_1 {w : Cond} (h1 : w ∈ tables_1_1) (h2 : goodWord w = true) : w ∈ TT := tt_t (List.mem_append_left _ h1) h2
theorem tt_2 {w : Cond} (h1 : w ∈ tables_1_2) (h2 : goodWord w = true) : w ∈ TT := tt_t (List.mem_append_right _ (List.mem_append_left _ h1)) h2
theorem tt_3 {w : Cond} (h1 : w ∈ tables_1_3) (h2 : goodWord w = true) : w ∈ TT := tt_t (List.mem_append_right _ (List.mem_append_right _ (List.mem_append_left _ h1))) h2
theorem tt_4 {w : Cond} (h1 : w ∈ tables_1_4) (h2 : goodWord w = true) : w ∈ TT := tt_t (List.mem_append_right _ (List.mem_append_right _ (List.mem_append_right _ h1))) h2
theorem tt_s {w : Cond} (h1 : w ∈ k2_sels lw_privs) (h2 : goodWord w = true) : w ∈ TT := tt_of (List.mem_append_left _ h1) h2
theorem kw_0 : (Cond.classLink RL 7 RX6) ∈ TT := tt_1 (List.mem_of_getElem? (i := 10) (by decide +kernel)) rfl
theorem kw_1 : (Cond.instantiable RX6 2) ∈ TT := tt_1 (List.mem_of_getElem? (i := 11) (by decide +kernel)) rfl
theorem kw_2 : (Cond.initialized RX6) ∈ TT := tt_1 (List.mem_of_getElem? (i := 1) (by decide +kernel)) rfl
theorem kw_3 : (Cond.classLink RL 10 RX7) ∈ TT := tt_3 (List.mem_of_getElem? (i := 98) (by decide +kernel)) rfl
theorem kw_4 : (Cond.instantiable RX7 10) ∈ TT := tt_3 (List.mem_of_getElem? (i := 99) (by decide +kernel)) rfl
theorem kw_5 : (Cond.initialized RX7) ∈ TT := tt_1 (List.mem_of_getElem? (i := 2) (by decide +kernel)) rfl
theorem kw_6 : (Cond.methodLink RL 9 yX6_init) ∈ TT := tt_1 (List.mem_of_getElem? (i := 12) (by decide +kernel)) rfl
theorem kw_7 : (Cond.instanceMethod yX6_init) ∈ TT := tt_1 (List.mem_of_getElem? (i := 13) (by decide +kernel)) rfl
set_option maxRecDepth 20000 in
theorem kw_8 : (Cond.code yX6_init cX6_init 1 none) ∈ TT := tt_1 (List.mem_of_getElem? (i := 14) rfl) rfl
theorem kw_9 : (Cond.methodLink RX6 1 objectInit) ∈ TT := tt_1 (List.mem_of_getElem? (i := 15) (by decide +kernel)) rfl
theorem kw_10 : (Cond.instanceMethod objectInit) ∈ TT := tt_1 (List.mem_of_getElem? (i := 16) (by decide +kernel)) rfl
set_option maxRecDepth 20000 in
theorem kw_11 : (Cond.code objectInit ⟨#[0xb1]⟩ 1 none) ∈ TT := tt_1 (List.mem_of_getElem? (i := 17) rfl) rfl
theorem kw_12 : (Cond.classLink RX6 9 RX4) ∈ TT := tt_1 (List.mem_of_getElem? (i := 18) (by decide +kernel)) rfl
theorem kw_13 : (Cond.fieldLink RX6 11 "SketchSpans" "sketches" "[LSketchSpans$Sketch;") ∈ TT := tt_1 (List.mem_of_getElem? (i := 20) (by decide +kernel)) rfl
theorem kw_14 : (Cond.fieldLink RX6 15 "SketchSpans" "made" "I") ∈ TT := tt_1 (List.mem_of_getElem? (i := 21) (by decide +kernel)) rfl
theorem kw_15 : (Cond.methodLink RL 12 yX7_init) ∈ TT := tt_3 (List.mem_of_getElem? (i := 100) (by decide +kernel)) rfl
theorem kw_16 : (Cond.instanceMethod yX7_init) ∈ TT := tt_3 (List.mem_of_getElem? (i := 101) (by decide +kernel)) rfl
set_option maxRecDepth 20000 in
theorem kw_17 : (Cond.code yX7_init cX7_init 1 none) ∈ TT := tt_3 (List.mem_of_getElem? (i := 102) rfl) rfl
theorem kw_18 : (Cond.methodLink RX7 7 objectInit) ∈ TT := tt_3 (List.mem_of_getElem? (i := 103) (by decide +kernel)) rfl
theorem kw_19 : (Cond.arrayClass .int) ∈ TT := tt_1 (List.mem_of_getElem? (i := 111) (by decide +kernel)) rfl
theorem kw_20 : (Cond.fieldLink RX7 13 "SketchSpansModel" "sort" "[I") ∈ TT := tt_3 (List.mem_of_getElem? (i := 106) (by decide +kernel)) rfl
theorem kw_21 : (Cond.fieldLink RX7 17 "SketchSpansModel" "size" "[I") ∈ TT := tt_3 (List.mem_of_getElem? (i := 107) (by decide +kernel)) rfl
theorem kw_22 : (Cond.fieldLink RX7 20 "SketchSpansModel" "seed" "[I") ∈ TT := tt_3 (List.mem_of_getElem? (i := 108) (by decide +kernel)) rfl
theorem kw_23 : (Cond.fieldLink RX7 23 "SketchSpansModel" "total" "[I") ∈ TT := tt_3 (List.mem_of_getElem? (i := 109) (by decide +kernel)) rfl
theorem kw_24 : (Cond.fieldLink RX7 26 "SketchSpansModel" "moved" "[I") ∈ TT := tt_3 (List.mem_of_getElem? (i := 110) (by decide +kernel)) rfl
theorem kw_25 : (Cond.fieldLink RX7 29 "SketchSpansModel" "lost" "[I") ∈ TT := tt_3 (List.mem_of_getElem? (i := 111) (by decide +kernel)) rfl
theorem kw_26 : (Cond.fieldLink RX7 32 "SketchSpansModel" "row" "[I") ∈ TT := tt_3 (List.mem_of_getElem? (i := 112) (by decide +kernel)) rfl
theorem kw_27 : (Cond.fieldLink RX7 35 "SketchSpansModel" "sorted" "[I") ∈ TT := tt_3 (List.mem_of_getElem? (i := 113) (by decide +kernel)) rfl
theorem kw_28 : (Cond.fieldLink RX7 1 "SketchSpansModel" "thrown" "I") ∈ TT := tt_3 (List.mem_of_getElem? (i := 104) (by decide +kernel)) rfl
theorem kw_29 : (Cond.methodLink RL 13 yX6_sketch) ∈ TT := tt_1 (List.mem_of_getElem? (i := 27) (by decide +kernel)) rfl
theorem kw_30 : (Cond.instanceMethod yX6_sketch) ∈ TT := tt_1 (List.mem_of_getElem? (i := 28) (by decide +kernel)) rfl
theorem kw_31 : (Cond.selects RX6 yX6_sketch yX6_sketch) ∈ TT := tt_1 (List.mem_of_getElem? (i := 29) (by decide +kernel)) rfl
set_option maxRecDepth 20000 in
theorem kw_32 : (Cond.code yX6_sketch cX6_sketch 4 (some .int)) ∈ TT := tt_1 (List.mem_of_getElem? (i := 30) rfl) rfl
theorem kw_33 : (Cond.methodLink RX6 19 yX6_isSort) ∈ TT := tt_1 (List.mem_of_getElem? (i := 31) (by decide +kernel)) rfl
theorem kw_34 : (Cond.static yX6_isSort) ∈ TT := tt_1 (List.mem_of_getElem? (i := 32) (by decide +kernel)) rfl
set_option maxRecDepth 20000 in
theorem kw_35 : (Cond.code yX6_isSort cX6_isSort 1 (some .boolean)) ∈ TT := tt_1 (List.mem_of_getElem? (i := 33) rfl) rfl
theorem kw_36 : (Cond.methodLink RX6 23 yX6_isSize) ∈ TT := tt_1 (List.mem_of_getElem? (i := 34) (by decide +kernel)) rfl
theorem kw_37 : (Cond.static yX6_isSize) ∈ TT := tt_1 (List.mem_of_getElem? (i := 35) (by decide +kernel)) rfl
set_option maxRecDepth 20000 in
theorem kw_38 : (Cond.code yX6_isSize cX6_isSize 2 (some .boolean)) ∈ TT := tt_1 (List.mem_of_getElem? (i := 36) rfl) rfl
theorem kw_39 : (Cond.fieldLink RX6 119 "SketchSpans" "SMALLEST_SIZES" "[I") ∈ TT := tt_1 (List.mem_of_getElem? (i := 37) (by decide +kernel)) rfl
theorem kw_40 : (Cond.fieldLink RX6 123 "SketchSpans" "LARGEST_SIZES" "[I") ∈ TT := tt_1 (List.mem_of_getElem? (i := 39) (by decide +kernel)) rfl
theorem kw_41 : (Cond.methodLink RX6 27 yX6_isSeed) ∈ TT := tt_1 (List.mem_of_getElem? (i := 41) (by decide +kernel)) rfl
theorem kw_42 : (Cond.static yX6_isSeed) ∈ TT := tt_1 (List.mem_of_getElem? (i := 42) (by decide +kernel)) rfl
set_option maxRecDepth 20000 in
theorem kw_43 : (Cond.code yX6_isSeed cX6_isSeed 1 (some .boolean)) ∈ TT := tt_1 (List.mem_of_getElem? (i := 43) rfl) rfl
theorem kw_44 : (Cond.methodLink RX6 30 yX6_newSketch) ∈ TT := tt_1 (List.mem_of_getElem? (i := 44) (by decide +kernel)) rfl
theorem kw_45 : (Cond.static yX6_newSketch) ∈ TT := tt_1 (List.mem_of_getElem? (i := 45) (by decide +kernel)) rfl
set_option maxRecDepth 20000 in
theorem kw_46 : (Cond.code yX6_newSketch cX6_newSketch 3 (some (.object "SketchSpans$Sketch"))) ∈ TT := tt_1 (List.mem_of_getElem? (i := 46) rfl) rfl
theorem kw_47 : (Cond.classLink RX6 126 RX1) ∈ TT := tt_1 (List.mem_of_getElem? (i := 47) (by decide +kernel)) rfl
theorem kw_48 : (Cond.instantiable RX1 9) ∈ TT := tt_1 (List.mem_of_getElem? (i := 48) (by decide +kernel)) rfl
theorem kw_49 : (Cond.initialized RX1) ∈ TT := tt_1 (List.mem_of_getElem? (i := 4) (by decide +kernel)) rfl
theorem kw_50 : (Cond.classLink RX6 130 RX5) ∈ TT := tt_1 (List.mem_of_getElem? (i := 112) (by decide +kernel)) rfl
theorem kw_51 : (Cond.instantiable RX5 6) ∈ TT := tt_1 (List.mem_of_getElem? (i := 113) (by decide +kernel)) rfl
theorem kw_52 : (Cond.initialized RX5) ∈ TT := tt_1 (List.mem_of_getElem? (i := 5) (by decide +kernel)) rfl
theorem kw_53 : (Cond.classLink RX6 133 RX0) ∈ TT := tt_1 (List.mem_of_getElem? (i := 127) (by decide +kernel)) rfl
theorem kw_54 : (Cond.instantiable RX0 6) ∈ TT := tt_1 (List.mem_of_getElem? (i := 128) (by decide +kernel)) rfl
theorem kw_55 : (Cond.initialized RX0) ∈ TT := tt_1 (List.mem_of_getElem? (i := 6) (by decide +kernel)) rfl
theorem kw_56 : (Cond.classLink RX6 136 RX2) ∈ TT := tt_1 (List.mem_of_getElem? (i := 142) (by decide +kernel)) rfl
theorem kw_57 : (Cond.instantiable RX2 7) ∈ TT := tt_1 (List.mem_of_getElem? (i := 143) (by decide +kernel)) rfl
theorem kw_58 : (Cond.initialized RX2) ∈ TT := tt_1 (List.mem_of_getElem? (i := 7) (by decide +kernel)) rfl
theorem kw_59 : (Cond.classLink RX6 139 RX3) ∈ TT := tt_1 (List.mem_of_getElem? (i := 160) (by decide +kernel)) rfl
theorem kw_60 : (Cond.instantiable RX3 9) ∈ TT := tt_1 (List.mem_of_getElem? (i := 161) (by decide +kernel)) rfl
theorem kw_61 : (Cond.initialized RX3) ∈ TT := tt_1 (List.mem_of_getElem? (i := 8) (by decide +kernel)) rfl
theorem kw_62 : (Cond.methodLink RX6 128 yX1_init) ∈ TT := tt_1 (List.mem_of_getElem? (i := 49) (by decide +kernel)) rfl
theorem kw_63 : (Cond.instanceMethod yX1_init) ∈ TT := tt_1 (List.mem_of_getElem? (i := 50) (by decide +kernel)) rfl
set_option maxRecDepth 20000 in
theorem kw_64 : (Cond.code yX1_init cX1_init 3 none) ∈ TT := tt_1 (List.mem_of_getElem? (i := 51) rfl) rfl
theorem kw_65 : (Cond.fieldLink RX1 9 "SketchSpans$Heavy" "keys" "[I") ∈ TT := tt_1 (List.mem_of_getElem? (i := 56) (by decide +kernel)) rfl
theorem kw_66 : (Cond.fieldLink RX1 15 "SketchSpans$Heavy" "numbers" "[I") ∈ TT := tt_1 (List.mem_of_getElem? (i := 57) (by decide +kernel)) rfl
theorem kw_67 : (Cond.fieldLink RX1 18 "SketchSpans$Heavy" "held" "I") ∈ TT := tt_1 (List.mem_of_getElem? (i := 58) (by decide +kernel)) rfl
theorem kw_68 : (Cond.fieldLink RX1 22 "SketchSpans$Heavy" "lost" "I") ∈ TT := tt_1 (List.mem_of_getElem? (i := 59) (by decide +kernel)) rfl
theorem kw_69 : (Cond.methodLink RX1 3 yX4_init) ∈ TT := tt_1 (List.mem_of_getElem? (i := 52) (by decide +kernel)) rfl
theorem kw_70 : (Cond.instanceMethod yX4_init) ∈ TT := tt_1 (List.mem_of_getElem? (i := 53) (by decide +kernel)) rfl
theorem kw_71 : (Cond.initialized RX4) ∈ TT := tt_1 (List.mem_of_getElem? (i := 3) (by decide +kernel)) rfl
set_option maxRecDepth 20000 in
theorem kw_72 : (Cond.code yX4_init cX4_init 4 none) ∈ TT := tt_1 (List.mem_of_getElem? (i := 54) rfl) rfl
theorem kw_73 : (Cond.methodLink RX4 3 objectInit) ∈ TT := tt_1 (List.mem_of_getElem? (i := 55) (by decide +kernel)) rfl
theorem kw_74 : (Cond.fieldLink RX4 9 "SketchSpans$Sketch" "sort" "I") ∈ TT := tt_1 (List.mem_of_getElem? (i := 60) (by decide +kernel)) rfl
theorem kw_75 : (Cond.fieldLink RX4 15 "SketchSpans$Sketch" "size" "I") ∈ TT := tt_1 (List.mem_of_getElem? (i := 62) (by decide +kernel)) rfl
theorem kw_76 : (Cond.fieldLink RX4 18 "SketchSpans$Sketch" "seed" "I") ∈ TT := tt_1 (List.mem_of_getElem? (i := 74) (by decide +kernel)) rfl
theorem kw_77 : (Cond.fieldLink RX4 21 "SketchSpans$Sketch" "total" "I") ∈ TT := tt_1 (List.mem_of_getElem? (i := 86) (by decide +kernel)) rfl
theorem kw_78 : (Cond.fieldLink RX4 24 "SketchSpans$Sketch" "moved" "I") ∈ TT := tt_1 (List.mem_of_getElem? (i := 90) (by decide +kernel)) rfl
theorem kw_79 : (Cond.methodLink RX6 132 yX5_init) ∈ TT := tt_1 (List.mem_of_getElem? (i := 114) (by decide +kernel)) rfl
theorem kw_80 : (Cond.instanceMethod yX5_init) ∈ TT := tt_1 (List.mem_of_getElem? (i := 115) (by decide +kernel)) rfl
set_option maxRecDepth 20000 in
theorem kw_81 : (Cond.code yX5_init cX5_init 3 none) ∈ TT := tt_1 (List.mem_of_getElem? (i := 116) rfl) rfl
theorem kw_82 : (Cond.fieldLink RX5 9 "SketchSpans$Table" "cells" "[I") ∈ TT := tt_1 (List.mem_of_getElem? (i := 118) (by decide +kernel)) rfl
theorem kw_83 : (Cond.methodLink RX5 3 yX4_init) ∈ TT := tt_1 (List.mem_of_getElem? (i := 117) (by decide +kernel)) rfl
theorem kw_84 : (Cond.methodLink RX6 135 yX0_init) ∈ TT := tt_1 (List.mem_of_getElem? (i := 129) (by decide +kernel)) rfl
theorem kw_85 : (Cond.instanceMethod yX0_init) ∈ TT := tt_1 (List.mem_of_getElem? (i := 130) (by decide +kernel)) rfl
set_option maxRecDepth 20000 in
theorem kw_86 : (Cond.code yX0_init cX0_init 3 none) ∈ TT := tt_1 (List.mem_of_getElem? (i := 131) rfl) rfl
theorem kw_87 : (Cond.fieldLink RX0 9 "SketchSpans$Filter" "bits" "[I") ∈ TT := tt_1 (List.mem_of_getElem? (i := 133) (by decide +kernel)) rfl
theorem kw_88 : (Cond.methodLink RX0 3 yX4_init) ∈ TT := tt_1 (List.mem_of_getElem? (i := 132) (by decide +kernel)) rfl
theorem kw_89 : (Cond.methodLink RX6 138 yX2_init) ∈ TT := tt_1 (List.mem_of_getElem? (i := 144) (by decide +kernel)) rfl
theorem kw_90 : (Cond.instanceMethod yX2_init) ∈ TT := tt_1 (List.mem_of_getElem? (i := 145) (by decide +kernel)) rfl
set_option maxRecDepth 20000 in
theorem kw_91 : (Cond.code yX2_init cX2_init 3 none) ∈ TT := tt_1 (List.mem_of_getElem? (i := 146) rfl) rfl
theorem kw_92 : (Cond.fieldLink RX2 9 "SketchSpans$Least" "hashes" "[I") ∈ TT := tt_1 (List.mem_of_getElem? (i := 148) (by decide +kernel)) rfl
theorem kw_93 : (Cond.fieldLink RX2 15 "SketchSpans$Least" "held" "I") ∈ TT := tt_1 (List.mem_of_getElem? (i := 149) (by decide +kernel)) rfl
theorem kw_94 : (Cond.methodLink RX2 3 yX4_init) ∈ TT := tt_1 (List.mem_of_getElem? (i := 147) (by decide +kernel)) rfl
theorem kw_95 : (Cond.methodLink RX6 141 yX3_init) ∈ TT := tt_1 (List.mem_of_getElem? (i := 162) (by decide +kernel)) rfl
theorem kw_96 : (Cond.instanceMethod yX3_init) ∈ TT := tt_1 (List.mem_of_getElem? (i := 163) (by decide +kernel)) rfl
set_option maxRecDepth 20000 in
theorem kw_97 : (Cond.code yX3_init cX3_init 3 none) ∈ TT := tt_1 (List.mem_of_getElem? (i := 164) rfl) rfl
theorem kw_98 : (Cond.fieldLink RX3 11 "SketchSpans$Ranks" "keys" "[I") ∈ TT := tt_1 (List.mem_of_getElem? (i := 166) (by decide +kernel)) rfl
theorem kw_99 : (Cond.fieldLink RX3 15 "SketchSpans$Ranks" "lengths" "[I") ∈ TT := tt_1 (List.mem_of_getElem? (i := 167) (by decide +kernel)) rfl
theorem kw_100 : (Cond.fieldLink RX3 18 "SketchSpans$Ranks" "turns" "[I") ∈ TT := tt_1 (List.mem_of_getElem? (i := 168) (by decide +kernel)) rfl
theorem kw_101 : (Cond.fieldLink RX3 21 "SketchSpans$Ranks" "error" "I") ∈ TT := tt_1 (List.mem_of_getElem? (i := 169) (by decide +kernel)) rfl
theorem kw_102 : (Cond.methodLink RX3 3 yX4_init) ∈ TT := tt_1 (List.mem_of_getElem? (i := 165) (by decide +kernel)) rfl
theorem kw_103 : (Cond.methodLink RX6 34 yX6_keep) ∈ TT := tt_1 (List.mem_of_getElem? (i := 184) (by decide +kernel)) rfl
theorem kw_104 : (Cond.instanceMethod yX6_keep) ∈ TT := tt_1 (List.mem_of_getElem? (i := 186) (by decide +kernel)) rfl
theorem kw_105 : (Cond.selects RX6 yX6_keep yX6_keep) ∈ TT := tt_s (List.mem_of_getElem? (i := 0) (by decide +kernel)) rfl
set_option maxRecDepth 20000 in
theorem kw_106 : (Cond.code yX6_keep cX6_keep 2 (some .int)) ∈ TT := tt_1 (List.mem_of_getElem? (i := 187) rfl) rfl
theorem kw_107 : (Cond.methodLink RL 17 yX7_sketch) ∈ TT := tt_3 (List.mem_of_getElem? (i := 135) (by decide +kernel)) rfl
theorem kw_108 : (Cond.instanceMethod yX7_sketch) ∈ TT := tt_3 (List.mem_of_getElem? (i := 136) (by decide +kernel)) rfl
theorem kw_109 : (Cond.selects RX7 yX7_sketch yX7_sketch) ∈ TT := tt_3 (List.mem_of_getElem? (i := 137) (by decide +kernel)) rfl
set_option maxRecDepth 20000 in
theorem kw_110 : (Cond.code yX7_sketch cX7_sketch 5 (some .int)) ∈ TT := tt_3 (List.mem_of_getElem? (i := 138) rfl) rfl
theorem kw_111 : (Cond.fieldLink RX7 38 "SketchSpansModel" "sketches" "I") ∈ TT := tt_3 (List.mem_of_getElem? (i := 105) (by decide +kernel)) rfl
theorem kw_112 : (Cond.methodLink RX7 41 yX7_in) ∈ TT := tt_3 (List.mem_of_getElem? (i := 139) (by decide +kernel)) rfl
theorem kw_113 : (Cond.static yX7_in) ∈ TT := tt_3 (List.mem_of_getElem? (i := 140) (by decide +kernel)) rfl
set_option maxRecDepth 20000 in
theorem kw_114 : (Cond.code yX7_in cX7_in 3 (some .boolean)) ∈ TT := tt_3 (List.mem_of_getElem? (i := 141) rfl) rfl
theorem kw_115 : (Cond.methodLink RX7 46 yX7_empty) ∈ TT := tt_3 (List.mem_of_getElem? (i := 142) (by decide +kernel)) rfl
theorem kw_116 : (Cond.instanceMethod yX7_empty) ∈ TT := tt_3 (List.mem_of_getElem? (i := 144) (by decide +kernel)) rfl
theorem kw_117 : (Cond.selects RX7 yX7_empty yX7_empty) ∈ TT := tt_s (List.mem_of_getElem? (i := 14) (by decide +kernel)) rfl
set_option maxRecDepth 20000 in
theorem kw_118 : (Cond.code yX7_empty cX7_empty 3 none) ∈ TT := tt_3 (List.mem_of_getElem? (i := 145) rfl) rfl
theorem kw_119 : (Cond.methodLink RL 18 yX6_copy) ∈ TT := tt_1 (List.mem_of_getElem? (i := 188) (by decide +kernel)) rfl
theorem kw_120 : (Cond.instanceMethod yX6_copy) ∈ TT := tt_1 (List.mem_of_getElem? (i := 189) (by decide +kernel)) rfl
theorem kw_121 : (Cond.selects RX6 yX6_copy yX6_copy) ∈ TT := tt_1 (List.mem_of_getElem? (i := 190) (by decide +kernel)) rfl
set_option maxRecDepth 20000 in
theorem kw_122 : (Cond.code yX6_copy cX6_copy 3 (some .int)) ∈ TT := tt_1 (List.mem_of_getElem? (i := 191) rfl) rfl
theorem kw_123 : (Cond.methodLink RX6 38 yX6_find) ∈ TT := tt_1 (List.mem_of_getElem? (i := 192) (by decide +kernel)) rfl
theorem kw_124 : (Cond.instanceMethod yX6_find) ∈ TT := tt_1 (List.mem_of_getElem? (i := 194) (by decide +kernel)) rfl
theorem kw_125 : (Cond.selects RX6 yX6_find yX6_find) ∈ TT := tt_s (List.mem_of_getElem? (i := 1) (by decide +kernel)) rfl
set_option maxRecDepth 20000 in
theorem kw_126 : (Cond.code yX6_find cX6_find 2 (some (.object "SketchSpans$Sketch"))) ∈ TT := tt_1 (List.mem_of_getElem? (i := 195) rfl) rfl
theorem kw_127 : (Cond.methodLink RX6 42 ⟨"SketchSpans$Sketch", "twin", "()LSketchSpans$Sketch;"⟩) ∈ TT := tt_1 (List.mem_of_getElem? (i := 196) (by decide +kernel)) rfl
theorem kw_128 : (Cond.sameMethod "SketchSpans$Sketch" "SketchSpans$Sketch" "twin" "()LSketchSpans$Sketch;") ∈ TT := tt_1 (List.mem_of_getElem? (i := 198) (by decide +kernel)) rfl
theorem kw_129 : (Cond.selects RX0 ⟨"SketchSpans$Sketch", "twin", "()LSketchSpans$Sketch;"⟩ yX0_twin) ∈ TT := tt_1 (List.mem_of_getElem? (i := 199) (by decide +kernel)) rfl
theorem kw_130 : (Cond.instanceMethod yX0_twin) ∈ TT := tt_1 (List.mem_of_getElem? (i := 200) (by decide +kernel)) rfl
set_option maxRecDepth 20000 in
theorem kw_131 : (Cond.code yX0_twin cX0_twin 2 (some (.object "SketchSpans$Sketch"))) ∈ TT := tt_1 (List.mem_of_getElem? (i := 201) rfl) rfl
theorem kw_132 : (Cond.classLink RX0 10 RX0) ∈ TT := tt_1 (List.mem_of_getElem? (i := 202) (by decide +kernel)) rfl
theorem kw_133 : (Cond.fieldLink RX0 15 "SketchSpans$Filter" "size" "I") ∈ TT := tt_1 (List.mem_of_getElem? (i := 63) (by decide +kernel)) rfl
theorem kw_134 : (Cond.sameField "SketchSpans$Filter" "SketchSpans$Sketch" "size" "I") ∈ TT := tt_1 (List.mem_of_getElem? (i := 64) (by decide +kernel)) rfl
theorem kw_135 : (Cond.fieldLink RX0 19 "SketchSpans$Filter" "seed" "I") ∈ TT := tt_1 (List.mem_of_getElem? (i := 75) (by decide +kernel)) rfl
theorem kw_136 : (Cond.sameField "SketchSpans$Filter" "SketchSpans$Sketch" "seed" "I") ∈ TT := tt_1 (List.mem_of_getElem? (i := 76) (by decide +kernel)) rfl
theorem kw_137 : (Cond.methodLink RX0 22 yX0_init) ∈ TT := tt_1 (List.mem_of_getElem? (i := 203) (by decide +kernel)) rfl
theorem kw_138 : (Cond.methodLink RX0 25 ⟨"SketchSpans$Filter", "copyTotals", "(LSketchSpans$Sketch;)V"⟩) ∈ TT := tt_1 (List.mem_of_getElem? (i := 204) (by decide +kernel)) rfl
theorem kw_139 : (Cond.sameMethod "SketchSpans$Filter" "SketchSpans$Sketch" "copyTotals" "(LSketchSpans$Sketch;)V") ∈ TT := tt_1 (List.mem_of_getElem? (i := 205) (by decide +kernel)) rfl
theorem kw_140 : (Cond.selects RX0 ⟨"SketchSpans$Filter", "copyTotals", "(LSketchSpans$Sketch;)V"⟩ yX4_copyTotals) ∈ TT := tt_1 (List.mem_of_getElem? (i := 207) (by decide +kernel)) rfl
theorem kw_141 : (Cond.instanceMethod yX4_copyTotals) ∈ TT := tt_1 (List.mem_of_getElem? (i := 208) (by decide +kernel)) rfl
set_option maxRecDepth 20000 in
theorem kw_142 : (Cond.code yX4_copyTotals cX4_copyTotals 2 none) ∈ TT := tt_1 (List.mem_of_getElem? (i := 209) rfl) rfl
theorem kw_143 : (Cond.static yX6_copyRow) ∈ TT := tt_1 (List.mem_of_getElem? (i := 211) (by decide +kernel)) rfl
set_option maxRecDepth 20000 in
theorem kw_144 : (Cond.code yX6_copyRow cX6_copyRow 3 none) ∈ TT := tt_1 (List.mem_of_getElem? (i := 212) rfl) rfl
theorem kw_145 : (Cond.selects RX1 ⟨"SketchSpans$Sketch", "twin", "()LSketchSpans$Sketch;"⟩ yX1_twin) ∈ TT := tt_1 (List.mem_of_getElem? (i := 213) (by decide +kernel)) rfl
theorem kw_146 : (Cond.instanceMethod yX1_twin) ∈ TT := tt_1 (List.mem_of_getElem? (i := 214) (by decide +kernel)) rfl
set_option maxRecDepth 20000 in
theorem kw_147 : (Cond.code yX1_twin cX1_twin 2 (some (.object "SketchSpans$Sketch"))) ∈ TT := tt_1 (List.mem_of_getElem? (i := 215) rfl) rfl
theorem kw_148 : (Cond.classLink RX1 10 RX1) ∈ TT := tt_1 (List.mem_of_getElem? (i := 216) (by decide +kernel)) rfl
theorem kw_149 : (Cond.fieldLink RX1 25 "SketchSpans$Heavy" "size" "I") ∈ TT := tt_1 (List.mem_of_getElem? (i := 65) (by decide +kernel)) rfl
theorem kw_150 : (Cond.sameField "SketchSpans$Heavy" "SketchSpans$Sketch" "size" "I") ∈ TT := tt_1 (List.mem_of_getElem? (i := 66) (by decide +kernel)) rfl
theorem kw_151 : (Cond.fieldLink RX1 28 "SketchSpans$Heavy" "seed" "I") ∈ TT := tt_1 (List.mem_of_getElem? (i := 77) (by decide +kernel)) rfl
theorem kw_152 : (Cond.sameField "SketchSpans$Heavy" "SketchSpans$Sketch" "seed" "I") ∈ TT := tt_1 (List.mem_of_getElem? (i := 78) (by decide +kernel)) rfl
theorem kw_153 : (Cond.methodLink RX1 31 yX1_init) ∈ TT := tt_1 (List.mem_of_getElem? (i := 217) (by decide +kernel)) rfl
theorem kw_154 : (Cond.methodLink RX1 34 ⟨"SketchSpans$Heavy", "copyTotals", "(LSketchSpans$Sketch;)V"⟩) ∈ TT := tt_1 (List.mem_of_getElem? (i := 218) (by decide +kernel)) rfl
theorem kw_155 : (Cond.sameMethod "SketchSpans$Heavy" "SketchSpans$Sketch" "copyTotals" "(LSketchSpans$Sketch;)V") ∈ TT := tt_1 (List.mem_of_getElem? (i := 219) (by decide +kernel)) rfl
theorem kw_156 : (Cond.selects RX1 ⟨"SketchSpans$Heavy", "copyTotals", "(LSketchSpans$Sketch;)V"⟩ yX4_copyTotals) ∈ TT := tt_1 (List.mem_of_getElem? (i := 220) (by decide +kernel)) rfl
theorem kw_157 : (Cond.selects RX2 ⟨"SketchSpans$Sketch", "twin", "()LSketchSpans$Sketch;"⟩ yX2_twin) ∈ TT := tt_1 (List.mem_of_getElem? (i := 222) (by decide +kernel)) rfl
theorem kw_158 : (Cond.instanceMethod yX2_twin) ∈ TT := tt_1 (List.mem_of_getElem? (i := 223) (by decide +kernel)) rfl
set_option maxRecDepth 20000 in
theorem kw_159 : (Cond.code yX2_twin cX2_twin 2 (some (.object "SketchSpans$Sketch"))) ∈ TT := tt_1 (List.mem_of_getElem? (i := 224) rfl) rfl
theorem kw_160 : (Cond.classLink RX2 10 RX2) ∈ TT := tt_1 (List.mem_of_getElem? (i := 225) (by decide +kernel)) rfl
theorem kw_161 : (Cond.fieldLink RX2 19 "SketchSpans$Least" "size" "I") ∈ TT := tt_1 (List.mem_of_getElem? (i := 67) (by decide +kernel)) rfl
theorem kw_162 : (Cond.sameField "SketchSpans$Least" "SketchSpans$Sketch" "size" "I") ∈ TT := tt_1 (List.mem_of_getElem? (i := 68) (by decide +kernel)) rfl
theorem kw_163 : (Cond.fieldLink RX2 22 "SketchSpans$Least" "seed" "I") ∈ TT := tt_1 (List.mem_of_getElem? (i := 79) (by decide +kernel)) rfl
theorem kw_164 : (Cond.sameField "SketchSpans$Least" "SketchSpans$Sketch" "seed" "I") ∈ TT := tt_1 (List.mem_of_getElem? (i := 80) (by decide +kernel)) rfl
theorem kw_165 : (Cond.methodLink RX2 25 yX2_init) ∈ TT := tt_1 (List.mem_of_getElem? (i := 226) (by decide +kernel)) rfl
theorem kw_166 : (Cond.methodLink RX2 28 ⟨"SketchSpans$Least", "copyTotals", "(LSketchSpans$Sketch;)V"⟩) ∈ TT := tt_1 (List.mem_of_getElem? (i := 227) (by decide +kernel)) rfl
theorem kw_167 : (Cond.sameMethod "SketchSpans$Least" "SketchSpans$Sketch" "copyTotals" "(LSketchSpans$Sketch;)V") ∈ TT := tt_1 (List.mem_of_getElem? (i := 228) (by decide +kernel)) rfl
theorem kw_168 : (Cond.selects RX2 ⟨"SketchSpans$Least", "copyTotals", "(LSketchSpans$Sketch;)V"⟩ yX4_copyTotals) ∈ TT := tt_1 (List.mem_of_getElem? (i := 229) (by decide +kernel)) rfl
theorem kw_169 : (Cond.selects RX3 ⟨"SketchSpans$Sketch", "twin", "()LSketchSpans$Sketch;"⟩ yX3_twin) ∈ TT := tt_1 (List.mem_of_getElem? (i := 231) (by decide +kernel)) rfl
theorem kw_170 : (Cond.instanceMethod yX3_twin) ∈ TT := tt_1 (List.mem_of_getElem? (i := 232) (by decide +kernel)) rfl
set_option maxRecDepth 20000 in
theorem kw_171 : (Cond.code yX3_twin cX3_twin 2 (some (.object "SketchSpans$Sketch"))) ∈ TT := tt_1 (List.mem_of_getElem? (i := 233) rfl) rfl
theorem kw_172 : (Cond.classLink RX3 9 RX3) ∈ TT := tt_1 (List.mem_of_getElem? (i := 234) (by decide +kernel)) rfl
theorem kw_173 : (Cond.fieldLink RX3 25 "SketchSpans$Ranks" "size" "I") ∈ TT := tt_1 (List.mem_of_getElem? (i := 69) (by decide +kernel)) rfl
theorem kw_174 : (Cond.sameField "SketchSpans$Ranks" "SketchSpans$Sketch" "size" "I") ∈ TT := tt_1 (List.mem_of_getElem? (i := 70) (by decide +kernel)) rfl
theorem kw_175 : (Cond.fieldLink RX3 28 "SketchSpans$Ranks" "seed" "I") ∈ TT := tt_1 (List.mem_of_getElem? (i := 81) (by decide +kernel)) rfl
theorem kw_176 : (Cond.sameField "SketchSpans$Ranks" "SketchSpans$Sketch" "seed" "I") ∈ TT := tt_1 (List.mem_of_getElem? (i := 82) (by decide +kernel)) rfl
theorem kw_177 : (Cond.methodLink RX3 31 yX3_init) ∈ TT := tt_1 (List.mem_of_getElem? (i := 235) (by decide +kernel)) rfl
theorem kw_178 : (Cond.methodLink RX3 34 ⟨"SketchSpans$Ranks", "copyTotals", "(LSketchSpans$Sketch;)V"⟩) ∈ TT := tt_1 (List.mem_of_getElem? (i := 236) (by decide +kernel)) rfl
theorem kw_179 : (Cond.sameMethod "SketchSpans$Ranks" "SketchSpans$Sketch" "copyTotals" "(LSketchSpans$Sketch;)V") ∈ TT := tt_1 (List.mem_of_getElem? (i := 237) (by decide +kernel)) rfl
theorem kw_180 : (Cond.selects RX3 ⟨"SketchSpans$Ranks", "copyTotals", "(LSketchSpans$Sketch;)V"⟩ yX4_copyTotals) ∈ TT := tt_1 (List.mem_of_getElem? (i := 238) (by decide +kernel)) rfl
theorem kw_181 : (Cond.selects RX5 ⟨"SketchSpans$Sketch", "twin", "()LSketchSpans$Sketch;"⟩ yX5_twin) ∈ TT := tt_2 (List.mem_of_getElem? (i := 0) (by decide +kernel)) rfl
theorem kw_182 : (Cond.instanceMethod yX5_twin) ∈ TT := tt_2 (List.mem_of_getElem? (i := 1) (by decide +kernel)) rfl
set_option maxRecDepth 20000 in
theorem kw_183 : (Cond.code yX5_twin cX5_twin 2 (some (.object "SketchSpans$Sketch"))) ∈ TT := tt_2 (List.mem_of_getElem? (i := 2) rfl) rfl
theorem kw_184 : (Cond.classLink RX5 10 RX5) ∈ TT := tt_2 (List.mem_of_getElem? (i := 3) (by decide +kernel)) rfl
theorem kw_185 : (Cond.fieldLink RX5 15 "SketchSpans$Table" "size" "I") ∈ TT := tt_1 (List.mem_of_getElem? (i := 71) (by decide +kernel)) rfl
theorem kw_186 : (Cond.sameField "SketchSpans$Table" "SketchSpans$Sketch" "size" "I") ∈ TT := tt_1 (List.mem_of_getElem? (i := 72) (by decide +kernel)) rfl
theorem kw_187 : (Cond.fieldLink RX5 19 "SketchSpans$Table" "seed" "I") ∈ TT := tt_1 (List.mem_of_getElem? (i := 83) (by decide +kernel)) rfl
theorem kw_188 : (Cond.sameField "SketchSpans$Table" "SketchSpans$Sketch" "seed" "I") ∈ TT := tt_1 (List.mem_of_getElem? (i := 84) (by decide +kernel)) rfl
theorem kw_189 : (Cond.methodLink RX5 22 yX5_init) ∈ TT := tt_2 (List.mem_of_getElem? (i := 4) (by decide +kernel)) rfl
theorem kw_190 : (Cond.methodLink RX5 25 ⟨"SketchSpans$Table", "copyTotals", "(LSketchSpans$Sketch;)V"⟩) ∈ TT := tt_2 (List.mem_of_getElem? (i := 5) (by decide +kernel)) rfl
theorem kw_191 : (Cond.sameMethod "SketchSpans$Table" "SketchSpans$Sketch" "copyTotals" "(LSketchSpans$Sketch;)V") ∈ TT := tt_2 (List.mem_of_getElem? (i := 6) (by decide +kernel)) rfl
theorem kw_192 : (Cond.selects RX5 ⟨"SketchSpans$Table", "copyTotals", "(LSketchSpans$Sketch;)V"⟩ yX4_copyTotals) ∈ TT := tt_2 (List.mem_of_getElem? (i := 7) (by decide +kernel)) rfl
theorem kw_193 : (Cond.methodLink RL 22 yX7_copy) ∈ TT := tt_3 (List.mem_of_getElem? (i := 146) (by decide +kernel)) rfl
theorem kw_194 : (Cond.instanceMethod yX7_copy) ∈ TT := tt_3 (List.mem_of_getElem? (i := 147) (by decide +kernel)) rfl
theorem kw_195 : (Cond.selects RX7 yX7_copy yX7_copy) ∈ TT := tt_3 (List.mem_of_getElem? (i := 148) (by decide +kernel)) rfl
set_option maxRecDepth 20000 in
theorem kw_196 : (Cond.code yX7_copy cX7_copy 4 (some .int)) ∈ TT := tt_3 (List.mem_of_getElem? (i := 149) rfl) rfl
theorem kw_197 : (Cond.methodLink RX7 50 yX7_none) ∈ TT := tt_3 (List.mem_of_getElem? (i := 150) (by decide +kernel)) rfl
theorem kw_198 : (Cond.instanceMethod yX7_none) ∈ TT := tt_3 (List.mem_of_getElem? (i := 152) (by decide +kernel)) rfl
theorem kw_199 : (Cond.selects RX7 yX7_none yX7_none) ∈ TT := tt_s (List.mem_of_getElem? (i := 15) (by decide +kernel)) rfl
set_option maxRecDepth 20000 in
theorem kw_200 : (Cond.code yX7_none cX7_none 2 (some .boolean)) ∈ TT := tt_3 (List.mem_of_getElem? (i := 153) rfl) rfl
theorem kw_201 : (Cond.methodLink RL 23 yX6_clear) ∈ TT := tt_2 (List.mem_of_getElem? (i := 9) (by decide +kernel)) rfl
theorem kw_202 : (Cond.instanceMethod yX6_clear) ∈ TT := tt_2 (List.mem_of_getElem? (i := 10) (by decide +kernel)) rfl
theorem kw_203 : (Cond.selects RX6 yX6_clear yX6_clear) ∈ TT := tt_2 (List.mem_of_getElem? (i := 11) (by decide +kernel)) rfl
set_option maxRecDepth 20000 in
theorem kw_204 : (Cond.code yX6_clear cX6_clear 4 (some .int)) ∈ TT := tt_2 (List.mem_of_getElem? (i := 12) rfl) rfl
theorem kw_205 : (Cond.fieldLink RX6 46 "SketchSpans$Sketch" "total" "I") ∈ TT := tt_1 (List.mem_of_getElem? (i := 87) (by decide +kernel)) rfl
theorem kw_206 : (Cond.fieldLink RX6 49 "SketchSpans$Sketch" "moved" "I") ∈ TT := tt_1 (List.mem_of_getElem? (i := 91) (by decide +kernel)) rfl
theorem kw_207 : (Cond.constant RX6 55 (10000000)) ∈ TT := tt_2 (List.mem_of_getElem? (i := 36) (by decide +kernel)) rfl
theorem kw_208 : (Cond.methodLink RX6 52 ⟨"SketchSpans$Sketch", "forget", "()V"⟩) ∈ TT := tt_2 (List.mem_of_getElem? (i := 13) (by decide +kernel)) rfl
theorem kw_209 : (Cond.sameMethod "SketchSpans$Sketch" "SketchSpans$Sketch" "forget" "()V") ∈ TT := tt_2 (List.mem_of_getElem? (i := 15) (by decide +kernel)) rfl
theorem kw_210 : (Cond.selects RX0 ⟨"SketchSpans$Sketch", "forget", "()V"⟩ yX0_forget) ∈ TT := tt_2 (List.mem_of_getElem? (i := 16) (by decide +kernel)) rfl
theorem kw_211 : (Cond.instanceMethod yX0_forget) ∈ TT := tt_2 (List.mem_of_getElem? (i := 17) (by decide +kernel)) rfl
set_option maxRecDepth 20000 in
theorem kw_212 : (Cond.code yX0_forget cX0_forget 1 none) ∈ TT := tt_2 (List.mem_of_getElem? (i := 18) rfl) rfl
theorem kw_213 : (Cond.static yX6_clearRow) ∈ TT := tt_2 (List.mem_of_getElem? (i := 20) (by decide +kernel)) rfl
set_option maxRecDepth 20000 in
theorem kw_214 : (Cond.code yX6_clearRow cX6_clearRow 2 none) ∈ TT := tt_2 (List.mem_of_getElem? (i := 21) rfl) rfl
theorem kw_215 : (Cond.selects RX1 ⟨"SketchSpans$Sketch", "forget", "()V"⟩ yX1_forget) ∈ TT := tt_2 (List.mem_of_getElem? (i := 22) (by decide +kernel)) rfl
theorem kw_216 : (Cond.instanceMethod yX1_forget) ∈ TT := tt_2 (List.mem_of_getElem? (i := 23) (by decide +kernel)) rfl
set_option maxRecDepth 20000 in
theorem kw_217 : (Cond.code yX1_forget cX1_forget 1 none) ∈ TT := tt_2 (List.mem_of_getElem? (i := 24) rfl) rfl
theorem kw_218 : (Cond.selects RX2 ⟨"SketchSpans$Sketch", "forget", "()V"⟩ yX2_forget) ∈ TT := tt_2 (List.mem_of_getElem? (i := 25) (by decide +kernel)) rfl
theorem kw_219 : (Cond.instanceMethod yX2_forget) ∈ TT := tt_2 (List.mem_of_getElem? (i := 26) (by decide +kernel)) rfl
set_option maxRecDepth 20000 in
theorem kw_220 : (Cond.code yX2_forget cX2_forget 1 none) ∈ TT := tt_2 (List.mem_of_getElem? (i := 27) rfl) rfl
theorem kw_221 : (Cond.selects RX3 ⟨"SketchSpans$Sketch", "forget", "()V"⟩ yX3_forget) ∈ TT := tt_2 (List.mem_of_getElem? (i := 28) (by decide +kernel)) rfl
theorem kw_222 : (Cond.instanceMethod yX3_forget) ∈ TT := tt_2 (List.mem_of_getElem? (i := 29) (by decide +kernel)) rfl
set_option maxRecDepth 20000 in
theorem kw_223 : (Cond.code yX3_forget cX3_forget 1 none) ∈ TT := tt_2 (List.mem_of_getElem? (i := 30) rfl) rfl
theorem kw_224 : (Cond.selects RX5 ⟨"SketchSpans$Sketch", "forget", "()V"⟩ yX5_forget) ∈ TT := tt_2 (List.mem_of_getElem? (i := 32) (by decide +kernel)) rfl
theorem kw_225 : (Cond.instanceMethod yX5_forget) ∈ TT := tt_2 (List.mem_of_getElem? (i := 33) (by decide +kernel)) rfl
set_option maxRecDepth 20000 in
theorem kw_226 : (Cond.code yX5_forget cX5_forget 1 none) ∈ TT := tt_2 (List.mem_of_getElem? (i := 34) rfl) rfl
theorem kw_227 : (Cond.methodLink RL 26 yX7_clear) ∈ TT := tt_3 (List.mem_of_getElem? (i := 154) (by decide +kernel)) rfl
theorem kw_228 : (Cond.instanceMethod yX7_clear) ∈ TT := tt_3 (List.mem_of_getElem? (i := 155) (by decide +kernel)) rfl
theorem kw_229 : (Cond.selects RX7 yX7_clear yX7_clear) ∈ TT := tt_3 (List.mem_of_getElem? (i := 156) (by decide +kernel)) rfl
set_option maxRecDepth 20000 in
theorem kw_230 : (Cond.code yX7_clear cX7_clear 3 (some .int)) ∈ TT := tt_3 (List.mem_of_getElem? (i := 157) rfl) rfl
theorem kw_231 : (Cond.constant RX7 54 (10000000)) ∈ TT := tt_3 (List.mem_of_getElem? (i := 158) (by decide +kernel)) rfl
theorem kw_232 : (Cond.methodLink RL 27 yX6_come) ∈ TT := tt_2 (List.mem_of_getElem? (i := 37) (by decide +kernel)) rfl
theorem kw_233 : (Cond.instanceMethod yX6_come) ∈ TT := tt_2 (List.mem_of_getElem? (i := 38) (by decide +kernel)) rfl
theorem kw_234 : (Cond.selects RX6 yX6_come yX6_come) ∈ TT := tt_2 (List.mem_of_getElem? (i := 39) (by decide +kernel)) rfl
set_option maxRecDepth 20000 in
theorem kw_235 : (Cond.code yX6_come cX6_come 5 (some .int)) ∈ TT := tt_2 (List.mem_of_getElem? (i := 40) rfl) rfl
theorem kw_236 : (Cond.methodLink RX6 62 Lib.Math.abs.name) ∈ TT := tt_2 (List.mem_of_getElem? (i := 57) (by decide +kernel)) rfl
theorem kw_237 : (Cond.static Lib.Math.abs.name) ∈ TT := tt_2 (List.mem_of_getElem? (i := 58) (by decide +kernel)) rfl
theorem kw_238 : (Cond.initialized "java/lang/Math") ∈ TT := tt_1 (List.mem_of_getElem? (i := 9) (by decide +kernel)) rfl
set_option maxRecDepth 20000 in
theorem kw_239 : (Cond.code Lib.Math.abs.name Lib.Math.abs.code 1 (some .int)) ∈ TT := tt_2 (List.mem_of_getElem? (i := 59) rfl) rfl
theorem kw_240 : (Cond.methodLink RX6 56 yX6_isKey) ∈ TT := tt_2 (List.mem_of_getElem? (i := 41) (by decide +kernel)) rfl
theorem kw_241 : (Cond.static yX6_isKey) ∈ TT := tt_2 (List.mem_of_getElem? (i := 42) (by decide +kernel)) rfl
set_option maxRecDepth 20000 in
theorem kw_242 : (Cond.code yX6_isKey cX6_isKey 1 (some .boolean)) ∈ TT := tt_2 (List.mem_of_getElem? (i := 43) rfl) rfl
theorem kw_243 : (Cond.methodLink RX6 59 ⟨"SketchSpans$Sketch", "mayTake", "(I)Z"⟩) ∈ TT := tt_2 (List.mem_of_getElem? (i := 44) (by decide +kernel)) rfl
theorem kw_244 : (Cond.sameMethod "SketchSpans$Sketch" "SketchSpans$Sketch" "mayTake" "(I)Z") ∈ TT := tt_2 (List.mem_of_getElem? (i := 46) (by decide +kernel)) rfl
theorem kw_245 : (Cond.selects RX0 ⟨"SketchSpans$Sketch", "mayTake", "(I)Z"⟩ yX4_mayTake) ∈ TT := tt_2 (List.mem_of_getElem? (i := 47) (by decide +kernel)) rfl
theorem kw_246 : (Cond.instanceMethod yX4_mayTake) ∈ TT := tt_2 (List.mem_of_getElem? (i := 45) (by decide +kernel)) rfl
set_option maxRecDepth 20000 in
theorem kw_247 : (Cond.code yX4_mayTake cX4_mayTake 2 (some .boolean)) ∈ TT := tt_2 (List.mem_of_getElem? (i := 56) rfl) rfl
theorem kw_248 : (Cond.selects RX1 ⟨"SketchSpans$Sketch", "mayTake", "(I)Z"⟩ yX4_mayTake) ∈ TT := tt_2 (List.mem_of_getElem? (i := 48) (by decide +kernel)) rfl
theorem kw_249 : (Cond.selects RX2 ⟨"SketchSpans$Sketch", "mayTake", "(I)Z"⟩ yX4_mayTake) ∈ TT := tt_2 (List.mem_of_getElem? (i := 49) (by decide +kernel)) rfl
theorem kw_250 : (Cond.instanceMethod ⟨"SketchSpans$Sketch", "mayTake", "(I)Z"⟩) ∈ TT := tt_2 (List.mem_of_getElem? (i := 45) (by decide +kernel)) rfl
theorem kw_251 : (Cond.selects RX3 ⟨"SketchSpans$Sketch", "mayTake", "(I)Z"⟩ yX3_mayTake) ∈ TT := tt_2 (List.mem_of_getElem? (i := 50) (by decide +kernel)) rfl
theorem kw_252 : (Cond.instanceMethod yX3_mayTake) ∈ TT := tt_2 (List.mem_of_getElem? (i := 51) (by decide +kernel)) rfl
set_option maxRecDepth 20000 in
theorem kw_253 : (Cond.code yX3_mayTake cX3_mayTake 2 (some .boolean)) ∈ TT := tt_2 (List.mem_of_getElem? (i := 52) rfl) rfl
theorem kw_254 : (Cond.selects RX5 ⟨"SketchSpans$Sketch", "mayTake", "(I)Z"⟩ yX5_mayTake) ∈ TT := tt_2 (List.mem_of_getElem? (i := 53) (by decide +kernel)) rfl
theorem kw_255 : (Cond.instanceMethod yX5_mayTake) ∈ TT := tt_2 (List.mem_of_getElem? (i := 54) (by decide +kernel)) rfl
set_option maxRecDepth 20000 in
theorem kw_256 : (Cond.code yX5_mayTake cX5_mayTake 2 (some .boolean)) ∈ TT := tt_2 (List.mem_of_getElem? (i := 55) rfl) rfl
theorem kw_257 : (Cond.methodLink RX6 68 ⟨"SketchSpans$Sketch", "take", "(II)V"⟩) ∈ TT := tt_2 (List.mem_of_getElem? (i := 60) (by decide +kernel)) rfl
theorem kw_258 : (Cond.sameMethod "SketchSpans$Sketch" "SketchSpans$Sketch" "take" "(II)V") ∈ TT := tt_2 (List.mem_of_getElem? (i := 62) (by decide +kernel)) rfl
theorem kw_259 : (Cond.selects RX0 ⟨"SketchSpans$Sketch", "take", "(II)V"⟩ yX0_take) ∈ TT := tt_2 (List.mem_of_getElem? (i := 63) (by decide +kernel)) rfl
theorem kw_260 : (Cond.instanceMethod yX0_take) ∈ TT := tt_2 (List.mem_of_getElem? (i := 64) (by decide +kernel)) rfl
set_option maxRecDepth 20000 in
theorem kw_261 : (Cond.code yX0_take cX0_take 5 none) ∈ TT := tt_2 (List.mem_of_getElem? (i := 65) rfl) rfl
theorem kw_262 : (Cond.static yX6_placeOf) ∈ TT := tt_2 (List.mem_of_getElem? (i := 67) (by decide +kernel)) rfl
set_option maxRecDepth 20000 in
theorem kw_263 : (Cond.code yX6_placeOf cX6_placeOf 4 (some .int)) ∈ TT := tt_2 (List.mem_of_getElem? (i := 68) rfl) rfl
theorem kw_264 : (Cond.methodLink RX6 80 yX6_hashOf) ∈ TT := tt_2 (List.mem_of_getElem? (i := 69) (by decide +kernel)) rfl
theorem kw_265 : (Cond.static yX6_hashOf) ∈ TT := tt_2 (List.mem_of_getElem? (i := 70) (by decide +kernel)) rfl
set_option maxRecDepth 20000 in
theorem kw_266 : (Cond.code yX6_hashOf cX6_hashOf 3 (some .int)) ∈ TT := tt_2 (List.mem_of_getElem? (i := 71) rfl) rfl
theorem kw_267 : (Cond.constant RX6 142 (65537)) ∈ TT := tt_2 (List.mem_of_getElem? (i := 72) (by decide +kernel)) rfl
theorem kw_268 : (Cond.selects RX1 ⟨"SketchSpans$Sketch", "take", "(II)V"⟩ yX1_take) ∈ TT := tt_2 (List.mem_of_getElem? (i := 73) (by decide +kernel)) rfl
theorem kw_269 : (Cond.instanceMethod yX1_take) ∈ TT := tt_2 (List.mem_of_getElem? (i := 74) (by decide +kernel)) rfl
set_option maxRecDepth 20000 in
theorem kw_270 : (Cond.code yX1_take cX1_take 5 none) ∈ TT := tt_2 (List.mem_of_getElem? (i := 75) rfl) rfl
theorem kw_271 : (Cond.static yX6_placeFor) ∈ TT := tt_2 (List.mem_of_getElem? (i := 77) (by decide +kernel)) rfl
set_option maxRecDepth 20000 in
theorem kw_272 : (Cond.code yX6_placeFor cX6_placeFor 4 (some .int)) ∈ TT := tt_2 (List.mem_of_getElem? (i := 78) rfl) rfl
theorem kw_273 : (Cond.static yX6_standsAt) ∈ TT := tt_2 (List.mem_of_getElem? (i := 80) (by decide +kernel)) rfl
set_option maxRecDepth 20000 in
theorem kw_274 : (Cond.code yX6_standsAt cX6_standsAt 4 (some .boolean)) ∈ TT := tt_2 (List.mem_of_getElem? (i := 81) rfl) rfl
theorem kw_275 : (Cond.methodLink RX1 50 yX1_leastNumber) ∈ TT := tt_2 (List.mem_of_getElem? (i := 82) (by decide +kernel)) rfl
theorem kw_276 : (Cond.instanceMethod yX1_leastNumber) ∈ TT := tt_2 (List.mem_of_getElem? (i := 84) (by decide +kernel)) rfl
theorem kw_277 : (Cond.selects RX1 yX1_leastNumber yX1_leastNumber) ∈ TT := tt_s (List.mem_of_getElem? (i := 2) (by decide +kernel)) rfl
set_option maxRecDepth 20000 in
theorem kw_278 : (Cond.code yX1_leastNumber cX1_leastNumber 4 (some .int)) ∈ TT := tt_2 (List.mem_of_getElem? (i := 85) rfl) rfl
theorem kw_279 : (Cond.methodLink RX1 68 Lib.Math.min.name) ∈ TT := tt_2 (List.mem_of_getElem? (i := 86) (by decide +kernel)) rfl
theorem kw_280 : (Cond.static Lib.Math.min.name) ∈ TT := tt_2 (List.mem_of_getElem? (i := 87) (by decide +kernel)) rfl
set_option maxRecDepth 20000 in
theorem kw_281 : (Cond.code Lib.Math.min.name Lib.Math.min.code 2 (some .int)) ∈ TT := tt_2 (List.mem_of_getElem? (i := 88) rfl) rfl
theorem kw_282 : (Cond.methodLink RX1 54 yX1_lower) ∈ TT := tt_2 (List.mem_of_getElem? (i := 89) (by decide +kernel)) rfl
theorem kw_283 : (Cond.instanceMethod yX1_lower) ∈ TT := tt_2 (List.mem_of_getElem? (i := 91) (by decide +kernel)) rfl
theorem kw_284 : (Cond.selects RX1 yX1_lower yX1_lower) ∈ TT := tt_s (List.mem_of_getElem? (i := 3) (by decide +kernel)) rfl
set_option maxRecDepth 20000 in
theorem kw_285 : (Cond.code yX1_lower cX1_lower 4 none) ∈ TT := tt_2 (List.mem_of_getElem? (i := 92) rfl) rfl
theorem kw_286 : (Cond.methodLink RX1 58 yX1_add) ∈ TT := tt_2 (List.mem_of_getElem? (i := 93) (by decide +kernel)) rfl
theorem kw_287 : (Cond.instanceMethod yX1_add) ∈ TT := tt_2 (List.mem_of_getElem? (i := 95) (by decide +kernel)) rfl
theorem kw_288 : (Cond.selects RX1 yX1_add yX1_add) ∈ TT := tt_s (List.mem_of_getElem? (i := 4) (by decide +kernel)) rfl
set_option maxRecDepth 20000 in
theorem kw_289 : (Cond.code yX1_add cX1_add 5 none) ∈ TT := tt_2 (List.mem_of_getElem? (i := 96) rfl) rfl
theorem kw_290 : (Cond.selects RX2 ⟨"SketchSpans$Sketch", "take", "(II)V"⟩ yX2_take) ∈ TT := tt_2 (List.mem_of_getElem? (i := 97) (by decide +kernel)) rfl
theorem kw_291 : (Cond.instanceMethod yX2_take) ∈ TT := tt_2 (List.mem_of_getElem? (i := 98) (by decide +kernel)) rfl
set_option maxRecDepth 20000 in
theorem kw_292 : (Cond.code yX2_take cX2_take 3 none) ∈ TT := tt_2 (List.mem_of_getElem? (i := 99) rfl) rfl
theorem kw_293 : (Cond.methodLink RX2 40 yX2_add) ∈ TT := tt_2 (List.mem_of_getElem? (i := 101) (by decide +kernel)) rfl
theorem kw_294 : (Cond.instanceMethod yX2_add) ∈ TT := tt_2 (List.mem_of_getElem? (i := 103) (by decide +kernel)) rfl
theorem kw_295 : (Cond.selects RX2 yX2_add yX2_add) ∈ TT := tt_s (List.mem_of_getElem? (i := 5) (by decide +kernel)) rfl
set_option maxRecDepth 20000 in
theorem kw_296 : (Cond.code yX2_add cX2_add 4 none) ∈ TT := tt_2 (List.mem_of_getElem? (i := 104) rfl) rfl
theorem kw_297 : (Cond.methodLink RX2 53 Lib.Math.min.name) ∈ TT := tt_2 (List.mem_of_getElem? (i := 107) (by decide +kernel)) rfl
theorem kw_298 : (Cond.selects RX3 ⟨"SketchSpans$Sketch", "take", "(II)V"⟩ yX3_take) ∈ TT := tt_2 (List.mem_of_getElem? (i := 108) (by decide +kernel)) rfl
theorem kw_299 : (Cond.instanceMethod yX3_take) ∈ TT := tt_2 (List.mem_of_getElem? (i := 109) (by decide +kernel)) rfl
set_option maxRecDepth 20000 in
theorem kw_300 : (Cond.code yX3_take cX3_take 4 none) ∈ TT := tt_2 (List.mem_of_getElem? (i := 110) rfl) rfl
theorem kw_301 : (Cond.methodLink RX3 46 yX3_push) ∈ TT := tt_2 (List.mem_of_getElem? (i := 111) (by decide +kernel)) rfl
theorem kw_302 : (Cond.instanceMethod yX3_push) ∈ TT := tt_2 (List.mem_of_getElem? (i := 113) (by decide +kernel)) rfl
theorem kw_303 : (Cond.selects RX3 yX3_push yX3_push) ∈ TT := tt_s (List.mem_of_getElem? (i := 6) (by decide +kernel)) rfl
set_option maxRecDepth 20000 in
theorem kw_304 : (Cond.code yX3_push cX3_push 3 none) ∈ TT := tt_2 (List.mem_of_getElem? (i := 114) rfl) rfl
theorem kw_305 : (Cond.methodLink RX3 68 yX3_collapse) ∈ TT := tt_2 (List.mem_of_getElem? (i := 115) (by decide +kernel)) rfl
theorem kw_306 : (Cond.instanceMethod yX3_collapse) ∈ TT := tt_2 (List.mem_of_getElem? (i := 117) (by decide +kernel)) rfl
theorem kw_307 : (Cond.selects RX3 yX3_collapse yX3_collapse) ∈ TT := tt_s (List.mem_of_getElem? (i := 7) (by decide +kernel)) rfl
set_option maxRecDepth 20000 in
theorem kw_308 : (Cond.code yX3_collapse cX3_collapse 4 none) ∈ TT := tt_2 (List.mem_of_getElem? (i := 118) rfl) rfl
theorem kw_309 : (Cond.methodLink RX3 72 yX3_sortBuffer) ∈ TT := tt_2 (List.mem_of_getElem? (i := 119) (by decide +kernel)) rfl
theorem kw_310 : (Cond.instanceMethod yX3_sortBuffer) ∈ TT := tt_2 (List.mem_of_getElem? (i := 121) (by decide +kernel)) rfl
theorem kw_311 : (Cond.selects RX3 yX3_sortBuffer yX3_sortBuffer) ∈ TT := tt_s (List.mem_of_getElem? (i := 8) (by decide +kernel)) rfl
set_option maxRecDepth 20000 in
theorem kw_312 : (Cond.code yX3_sortBuffer cX3_sortBuffer 6 none) ∈ TT := tt_2 (List.mem_of_getElem? (i := 122) rfl) rfl
theorem kw_313 : (Cond.methodLink RX3 49 yX3_keyAt) ∈ TT := tt_2 (List.mem_of_getElem? (i := 123) (by decide +kernel)) rfl
theorem kw_314 : (Cond.instanceMethod yX3_keyAt) ∈ TT := tt_2 (List.mem_of_getElem? (i := 125) (by decide +kernel)) rfl
theorem kw_315 : (Cond.selects RX3 yX3_keyAt yX3_keyAt) ∈ TT := tt_s (List.mem_of_getElem? (i := 9) (by decide +kernel)) rfl
set_option maxRecDepth 20000 in
theorem kw_316 : (Cond.code yX3_keyAt cX3_keyAt 4 (some .int)) ∈ TT := tt_2 (List.mem_of_getElem? (i := 126) rfl) rfl
theorem kw_317 : (Cond.selects RX5 ⟨"SketchSpans$Sketch", "take", "(II)V"⟩ yX5_take) ∈ TT := tt_2 (List.mem_of_getElem? (i := 127) (by decide +kernel)) rfl
theorem kw_318 : (Cond.instanceMethod yX5_take) ∈ TT := tt_2 (List.mem_of_getElem? (i := 128) (by decide +kernel)) rfl
set_option maxRecDepth 20000 in
theorem kw_319 : (Cond.code yX5_take cX5_take 5 none) ∈ TT := tt_2 (List.mem_of_getElem? (i := 129) rfl) rfl
theorem kw_320 : (Cond.methodLink RX5 37 yX5_placeIn) ∈ TT := tt_2 (List.mem_of_getElem? (i := 130) (by decide +kernel)) rfl
theorem kw_321 : (Cond.instanceMethod yX5_placeIn) ∈ TT := tt_2 (List.mem_of_getElem? (i := 132) (by decide +kernel)) rfl
theorem kw_322 : (Cond.selects RX5 yX5_placeIn yX5_placeIn) ∈ TT := tt_s (List.mem_of_getElem? (i := 10) (by decide +kernel)) rfl
set_option maxRecDepth 20000 in
theorem kw_323 : (Cond.code yX5_placeIn cX5_placeIn 3 (some .int)) ∈ TT := tt_2 (List.mem_of_getElem? (i := 133) rfl) rfl
theorem kw_324 : (Cond.methodLink RL 30 yX7_come) ∈ TT := tt_3 (List.mem_of_getElem? (i := 159) (by decide +kernel)) rfl
theorem kw_325 : (Cond.instanceMethod yX7_come) ∈ TT := tt_3 (List.mem_of_getElem? (i := 160) (by decide +kernel)) rfl
theorem kw_326 : (Cond.selects RX7 yX7_come yX7_come) ∈ TT := tt_3 (List.mem_of_getElem? (i := 161) (by decide +kernel)) rfl
set_option maxRecDepth 20000 in
theorem kw_327 : (Cond.code yX7_come cX7_come 6 (some .int)) ∈ TT := tt_3 (List.mem_of_getElem? (i := 162) rfl) rfl
theorem kw_328 : (Cond.methodLink RX7 94 yX7_comeOnce) ∈ TT := tt_3 (List.mem_of_getElem? (i := 163) (by decide +kernel)) rfl
theorem kw_329 : (Cond.instanceMethod yX7_comeOnce) ∈ TT := tt_3 (List.mem_of_getElem? (i := 165) (by decide +kernel)) rfl
theorem kw_330 : (Cond.selects RX7 yX7_comeOnce yX7_comeOnce) ∈ TT := tt_s (List.mem_of_getElem? (i := 16) (by decide +kernel)) rfl
set_option maxRecDepth 20000 in
theorem kw_331 : (Cond.code yX7_comeOnce cX7_comeOnce 5 none) ∈ TT := tt_3 (List.mem_of_getElem? (i := 166) rfl) rfl
theorem kw_332 : (Cond.methodLink RX7 85 yX7_comeHeavy) ∈ TT := tt_3 (List.mem_of_getElem? (i := 167) (by decide +kernel)) rfl
theorem kw_333 : (Cond.instanceMethod yX7_comeHeavy) ∈ TT := tt_3 (List.mem_of_getElem? (i := 169) (by decide +kernel)) rfl
theorem kw_334 : (Cond.selects RX7 yX7_comeHeavy yX7_comeHeavy) ∈ TT := tt_s (List.mem_of_getElem? (i := 17) (by decide +kernel)) rfl
set_option maxRecDepth 20000 in
theorem kw_335 : (Cond.code yX7_comeHeavy cX7_comeHeavy 7 none) ∈ TT := tt_3 (List.mem_of_getElem? (i := 170) rfl) rfl
theorem kw_336 : (Cond.methodLink RX7 63 yX7_counterOf) ∈ TT := tt_3 (List.mem_of_getElem? (i := 171) (by decide +kernel)) rfl
theorem kw_337 : (Cond.instanceMethod yX7_counterOf) ∈ TT := tt_3 (List.mem_of_getElem? (i := 173) (by decide +kernel)) rfl
theorem kw_338 : (Cond.selects RX7 yX7_counterOf yX7_counterOf) ∈ TT := tt_s (List.mem_of_getElem? (i := 18) (by decide +kernel)) rfl
set_option maxRecDepth 20000 in
theorem kw_339 : (Cond.code yX7_counterOf cX7_counterOf 4 (some .int)) ∈ TT := tt_3 (List.mem_of_getElem? (i := 174) rfl) rfl
theorem kw_340 : (Cond.methodLink RX7 55 yX7_many) ∈ TT := tt_3 (List.mem_of_getElem? (i := 175) (by decide +kernel)) rfl
theorem kw_341 : (Cond.instanceMethod yX7_many) ∈ TT := tt_3 (List.mem_of_getElem? (i := 177) (by decide +kernel)) rfl
theorem kw_342 : (Cond.selects RX7 yX7_many yX7_many) ∈ TT := tt_s (List.mem_of_getElem? (i := 19) (by decide +kernel)) rfl
set_option maxRecDepth 20000 in
theorem kw_343 : (Cond.code yX7_many cX7_many 2 (some .int)) ∈ TT := tt_3 (List.mem_of_getElem? (i := 178) rfl) rfl
theorem kw_344 : (Cond.methodLink RX7 59 yX7_at) ∈ TT := tt_3 (List.mem_of_getElem? (i := 179) (by decide +kernel)) rfl
theorem kw_345 : (Cond.instanceMethod yX7_at) ∈ TT := tt_3 (List.mem_of_getElem? (i := 181) (by decide +kernel)) rfl
theorem kw_346 : (Cond.selects RX7 yX7_at yX7_at) ∈ TT := tt_s (List.mem_of_getElem? (i := 20) (by decide +kernel)) rfl
set_option maxRecDepth 20000 in
theorem kw_347 : (Cond.code yX7_at cX7_at 3 (some .int)) ∈ TT := tt_3 (List.mem_of_getElem? (i := 182) rfl) rfl
theorem kw_348 : (Cond.methodLink RX7 66 yX7_add) ∈ TT := tt_3 (List.mem_of_getElem? (i := 183) (by decide +kernel)) rfl
theorem kw_349 : (Cond.instanceMethod yX7_add) ∈ TT := tt_3 (List.mem_of_getElem? (i := 185) (by decide +kernel)) rfl
theorem kw_350 : (Cond.selects RX7 yX7_add yX7_add) ∈ TT := tt_s (List.mem_of_getElem? (i := 21) (by decide +kernel)) rfl
set_option maxRecDepth 20000 in
theorem kw_351 : (Cond.code yX7_add cX7_add 5 none) ∈ TT := tt_3 (List.mem_of_getElem? (i := 186) rfl) rfl
theorem kw_352 : (Cond.methodLink RX7 70 yX7_lessen) ∈ TT := tt_3 (List.mem_of_getElem? (i := 187) (by decide +kernel)) rfl
theorem kw_353 : (Cond.instanceMethod yX7_lessen) ∈ TT := tt_3 (List.mem_of_getElem? (i := 189) (by decide +kernel)) rfl
theorem kw_354 : (Cond.selects RX7 yX7_lessen yX7_lessen) ∈ TT := tt_s (List.mem_of_getElem? (i := 22) (by decide +kernel)) rfl
set_option maxRecDepth 20000 in
theorem kw_355 : (Cond.code yX7_lessen cX7_lessen 6 none) ∈ TT := tt_3 (List.mem_of_getElem? (i := 190) rfl) rfl
theorem kw_356 : (Cond.methodLink RX7 88 yX7_cell) ∈ TT := tt_3 (List.mem_of_getElem? (i := 191) (by decide +kernel)) rfl
theorem kw_357 : (Cond.instanceMethod yX7_cell) ∈ TT := tt_3 (List.mem_of_getElem? (i := 193) (by decide +kernel)) rfl
theorem kw_358 : (Cond.selects RX7 yX7_cell yX7_cell) ∈ TT := tt_s (List.mem_of_getElem? (i := 23) (by decide +kernel)) rfl
set_option maxRecDepth 20000 in
theorem kw_359 : (Cond.code yX7_cell cX7_cell 5 (some .int)) ∈ TT := tt_3 (List.mem_of_getElem? (i := 194) rfl) rfl
theorem kw_360 : (Cond.methodLink RX7 74 yX7_hashOf) ∈ TT := tt_3 (List.mem_of_getElem? (i := 195) (by decide +kernel)) rfl
theorem kw_361 : (Cond.static yX7_hashOf) ∈ TT := tt_3 (List.mem_of_getElem? (i := 196) (by decide +kernel)) rfl
set_option maxRecDepth 20000 in
theorem kw_362 : (Cond.code yX7_hashOf cX7_hashOf 3 (some .int)) ∈ TT := tt_3 (List.mem_of_getElem? (i := 197) rfl) rfl
theorem kw_363 : (Cond.constant RX7 45 (65537)) ∈ TT := tt_3 (List.mem_of_getElem? (i := 198) (by decide +kernel)) rfl
theorem kw_364 : (Cond.methodLink RX7 91 yX7_keep) ∈ TT := tt_3 (List.mem_of_getElem? (i := 199) (by decide +kernel)) rfl
theorem kw_365 : (Cond.instanceMethod yX7_keep) ∈ TT := tt_3 (List.mem_of_getElem? (i := 201) (by decide +kernel)) rfl
theorem kw_366 : (Cond.selects RX7 yX7_keep yX7_keep) ∈ TT := tt_s (List.mem_of_getElem? (i := 24) (by decide +kernel)) rfl
set_option maxRecDepth 20000 in
theorem kw_367 : (Cond.code yX7_keep cX7_keep 6 none) ∈ TT := tt_3 (List.mem_of_getElem? (i := 202) rfl) rfl
theorem kw_368 : (Cond.methodLink RX7 81 yX7_put) ∈ TT := tt_3 (List.mem_of_getElem? (i := 203) (by decide +kernel)) rfl
theorem kw_369 : (Cond.static yX7_put) ∈ TT := tt_3 (List.mem_of_getElem? (i := 204) (by decide +kernel)) rfl
set_option maxRecDepth 20000 in
theorem kw_370 : (Cond.code yX7_put cX7_put 9 none) ∈ TT := tt_3 (List.mem_of_getElem? (i := 205) rfl) rfl
theorem kw_371 : (Cond.methodLink RX7 78 yX7_keyAt) ∈ TT := tt_3 (List.mem_of_getElem? (i := 206) (by decide +kernel)) rfl
theorem kw_372 : (Cond.instanceMethod yX7_keyAt) ∈ TT := tt_3 (List.mem_of_getElem? (i := 208) (by decide +kernel)) rfl
theorem kw_373 : (Cond.selects RX7 yX7_keyAt yX7_keyAt) ∈ TT := tt_s (List.mem_of_getElem? (i := 25) (by decide +kernel)) rfl
set_option maxRecDepth 20000 in
theorem kw_374 : (Cond.code yX7_keyAt cX7_keyAt 4 (some .int)) ∈ TT := tt_3 (List.mem_of_getElem? (i := 209) rfl) rfl
theorem kw_375 : (Cond.methodLink RL 31 yX6_merge) ∈ TT := tt_2 (List.mem_of_getElem? (i := 135) (by decide +kernel)) rfl
theorem kw_376 : (Cond.instanceMethod yX6_merge) ∈ TT := tt_2 (List.mem_of_getElem? (i := 136) (by decide +kernel)) rfl
theorem kw_377 : (Cond.selects RX6 yX6_merge yX6_merge) ∈ TT := tt_2 (List.mem_of_getElem? (i := 137) (by decide +kernel)) rfl
set_option maxRecDepth 20000 in
theorem kw_378 : (Cond.code yX6_merge cX6_merge 5 (some .int)) ∈ TT := tt_2 (List.mem_of_getElem? (i := 138) rfl) rfl
theorem kw_379 : (Cond.methodLink RX6 72 ⟨"SketchSpans$Sketch", "isLike", "(LSketchSpans$Sketch;)Z"⟩) ∈ TT := tt_2 (List.mem_of_getElem? (i := 139) (by decide +kernel)) rfl
theorem kw_380 : (Cond.sameMethod "SketchSpans$Sketch" "SketchSpans$Sketch" "isLike" "(LSketchSpans$Sketch;)Z") ∈ TT := tt_2 (List.mem_of_getElem? (i := 141) (by decide +kernel)) rfl
theorem kw_381 : (Cond.selects RX0 ⟨"SketchSpans$Sketch", "isLike", "(LSketchSpans$Sketch;)Z"⟩ yX4_isLike) ∈ TT := tt_2 (List.mem_of_getElem? (i := 142) (by decide +kernel)) rfl
theorem kw_382 : (Cond.instanceMethod yX4_isLike) ∈ TT := tt_2 (List.mem_of_getElem? (i := 140) (by decide +kernel)) rfl
set_option maxRecDepth 20000 in
theorem kw_383 : (Cond.code yX4_isLike cX4_isLike 2 (some .boolean)) ∈ TT := tt_2 (List.mem_of_getElem? (i := 147) rfl) rfl
theorem kw_384 : (Cond.selects RX1 ⟨"SketchSpans$Sketch", "isLike", "(LSketchSpans$Sketch;)Z"⟩ yX4_isLike) ∈ TT := tt_2 (List.mem_of_getElem? (i := 143) (by decide +kernel)) rfl
theorem kw_385 : (Cond.selects RX2 ⟨"SketchSpans$Sketch", "isLike", "(LSketchSpans$Sketch;)Z"⟩ yX4_isLike) ∈ TT := tt_2 (List.mem_of_getElem? (i := 144) (by decide +kernel)) rfl
theorem kw_386 : (Cond.selects RX3 ⟨"SketchSpans$Sketch", "isLike", "(LSketchSpans$Sketch;)Z"⟩ yX4_isLike) ∈ TT := tt_2 (List.mem_of_getElem? (i := 145) (by decide +kernel)) rfl
theorem kw_387 : (Cond.selects RX5 ⟨"SketchSpans$Sketch", "isLike", "(LSketchSpans$Sketch;)Z"⟩ yX4_isLike) ∈ TT := tt_2 (List.mem_of_getElem? (i := 146) (by decide +kernel)) rfl
theorem kw_388 : (Cond.methodLink RX6 76 ⟨"SketchSpans$Sketch", "join", "(LSketchSpans$Sketch;)V"⟩) ∈ TT := tt_2 (List.mem_of_getElem? (i := 148) (by decide +kernel)) rfl
theorem kw_389 : (Cond.sameMethod "SketchSpans$Sketch" "SketchSpans$Sketch" "join" "(LSketchSpans$Sketch;)V") ∈ TT := tt_2 (List.mem_of_getElem? (i := 150) (by decide +kernel)) rfl
theorem kw_390 : (Cond.selects RX0 ⟨"SketchSpans$Sketch", "join", "(LSketchSpans$Sketch;)V"⟩ yX0_join) ∈ TT := tt_2 (List.mem_of_getElem? (i := 151) (by decide +kernel)) rfl
theorem kw_391 : (Cond.instanceMethod yX0_join) ∈ TT := tt_2 (List.mem_of_getElem? (i := 152) (by decide +kernel)) rfl
set_option maxRecDepth 20000 in
theorem kw_392 : (Cond.code yX0_join cX0_join 4 none) ∈ TT := tt_2 (List.mem_of_getElem? (i := 153) rfl) rfl
theorem kw_393 : (Cond.classLink RX0 10 "SketchSpans$Filter") ∈ TT := tt_1 (List.mem_of_getElem? (i := 202) (by decide +kernel)) rfl
theorem kw_394 : (Cond.selects RX1 ⟨"SketchSpans$Sketch", "join", "(LSketchSpans$Sketch;)V"⟩ yX1_join) ∈ TT := tt_2 (List.mem_of_getElem? (i := 154) (by decide +kernel)) rfl
theorem kw_395 : (Cond.instanceMethod yX1_join) ∈ TT := tt_2 (List.mem_of_getElem? (i := 155) (by decide +kernel)) rfl
set_option maxRecDepth 20000 in
theorem kw_396 : (Cond.code yX1_join cX1_join 4 none) ∈ TT := tt_2 (List.mem_of_getElem? (i := 156) rfl) rfl
theorem kw_397 : (Cond.classLink RX1 10 "SketchSpans$Heavy") ∈ TT := tt_1 (List.mem_of_getElem? (i := 216) (by decide +kernel)) rfl
theorem kw_398 : (Cond.methodLink RX1 61 yX1_firstNumberTooMany) ∈ TT := tt_2 (List.mem_of_getElem? (i := 157) (by decide +kernel)) rfl
theorem kw_399 : (Cond.instanceMethod yX1_firstNumberTooMany) ∈ TT := tt_2 (List.mem_of_getElem? (i := 159) (by decide +kernel)) rfl
theorem kw_400 : (Cond.selects RX1 yX1_firstNumberTooMany yX1_firstNumberTooMany) ∈ TT := tt_s (List.mem_of_getElem? (i := 11) (by decide +kernel)) rfl
set_option maxRecDepth 20000 in
theorem kw_401 : (Cond.code yX1_firstNumberTooMany cX1_firstNumberTooMany 3 (some .int)) ∈ TT := tt_2 (List.mem_of_getElem? (i := 160) rfl) rfl
theorem kw_402 : (Cond.methodLink RX1 74 yX1_howManyNotBelow) ∈ TT := tt_2 (List.mem_of_getElem? (i := 161) (by decide +kernel)) rfl
theorem kw_403 : (Cond.instanceMethod yX1_howManyNotBelow) ∈ TT := tt_2 (List.mem_of_getElem? (i := 163) (by decide +kernel)) rfl
theorem kw_404 : (Cond.selects RX1 yX1_howManyNotBelow yX1_howManyNotBelow) ∈ TT := tt_s (List.mem_of_getElem? (i := 12) (by decide +kernel)) rfl
set_option maxRecDepth 20000 in
theorem kw_405 : (Cond.code yX1_howManyNotBelow cX1_howManyNotBelow 4 (some .int)) ∈ TT := tt_2 (List.mem_of_getElem? (i := 164) rfl) rfl
theorem kw_406 : (Cond.selects RX2 ⟨"SketchSpans$Sketch", "join", "(LSketchSpans$Sketch;)V"⟩ yX2_join) ∈ TT := tt_2 (List.mem_of_getElem? (i := 165) (by decide +kernel)) rfl
theorem kw_407 : (Cond.instanceMethod yX2_join) ∈ TT := tt_2 (List.mem_of_getElem? (i := 166) (by decide +kernel)) rfl
set_option maxRecDepth 20000 in
theorem kw_408 : (Cond.code yX2_join cX2_join 4 none) ∈ TT := tt_2 (List.mem_of_getElem? (i := 167) rfl) rfl
theorem kw_409 : (Cond.classLink RX2 10 "SketchSpans$Least") ∈ TT := tt_1 (List.mem_of_getElem? (i := 225) (by decide +kernel)) rfl
theorem kw_410 : (Cond.selects RX3 ⟨"SketchSpans$Sketch", "join", "(LSketchSpans$Sketch;)V"⟩ yX3_join) ∈ TT := tt_2 (List.mem_of_getElem? (i := 168) (by decide +kernel)) rfl
theorem kw_411 : (Cond.instanceMethod yX3_join) ∈ TT := tt_2 (List.mem_of_getElem? (i := 169) (by decide +kernel)) rfl
set_option maxRecDepth 20000 in
theorem kw_412 : (Cond.code yX3_join cX3_join 5 none) ∈ TT := tt_2 (List.mem_of_getElem? (i := 170) rfl) rfl
theorem kw_413 : (Cond.classLink RX3 9 "SketchSpans$Ranks") ∈ TT := tt_1 (List.mem_of_getElem? (i := 234) (by decide +kernel)) rfl
theorem kw_414 : (Cond.selects RX5 ⟨"SketchSpans$Sketch", "join", "(LSketchSpans$Sketch;)V"⟩ yX5_join) ∈ TT := tt_2 (List.mem_of_getElem? (i := 171) (by decide +kernel)) rfl
theorem kw_415 : (Cond.instanceMethod yX5_join) ∈ TT := tt_2 (List.mem_of_getElem? (i := 172) (by decide +kernel)) rfl
set_option maxRecDepth 20000 in
theorem kw_416 : (Cond.code yX5_join cX5_join 4 none) ∈ TT := tt_2 (List.mem_of_getElem? (i := 173) rfl) rfl
theorem kw_417 : (Cond.classLink RX5 10 "SketchSpans$Table") ∈ TT := tt_2 (List.mem_of_getElem? (i := 3) (by decide +kernel)) rfl
theorem kw_418 : (Cond.methodLink RL 35 yX7_merge) ∈ TT := tt_3 (List.mem_of_getElem? (i := 210) (by decide +kernel)) rfl
theorem kw_419 : (Cond.instanceMethod yX7_merge) ∈ TT := tt_3 (List.mem_of_getElem? (i := 211) (by decide +kernel)) rfl
theorem kw_420 : (Cond.selects RX7 yX7_merge yX7_merge) ∈ TT := tt_3 (List.mem_of_getElem? (i := 212) (by decide +kernel)) rfl
set_option maxRecDepth 20000 in
theorem kw_421 : (Cond.code yX7_merge cX7_merge 6 (some .int)) ∈ TT := tt_3 (List.mem_of_getElem? (i := 213) rfl) rfl
theorem kw_422 : (Cond.methodLink RX7 97 yX7_joinHeavy) ∈ TT := tt_3 (List.mem_of_getElem? (i := 214) (by decide +kernel)) rfl
theorem kw_423 : (Cond.instanceMethod yX7_joinHeavy) ∈ TT := tt_3 (List.mem_of_getElem? (i := 216) (by decide +kernel)) rfl
theorem kw_424 : (Cond.selects RX7 yX7_joinHeavy yX7_joinHeavy) ∈ TT := tt_s (List.mem_of_getElem? (i := 26) (by decide +kernel)) rfl
set_option maxRecDepth 20000 in
theorem kw_425 : (Cond.code yX7_joinHeavy cX7_joinHeavy 7 none) ∈ TT := tt_3 (List.mem_of_getElem? (i := 217) rfl) rfl
theorem kw_426 : (Cond.methodLink RL 36 yX6_hash) ∈ TT := tt_2 (List.mem_of_getElem? (i := 174) (by decide +kernel)) rfl
theorem kw_427 : (Cond.instanceMethod yX6_hash) ∈ TT := tt_2 (List.mem_of_getElem? (i := 175) (by decide +kernel)) rfl
theorem kw_428 : (Cond.selects RX6 yX6_hash yX6_hash) ∈ TT := tt_2 (List.mem_of_getElem? (i := 176) (by decide +kernel)) rfl
set_option maxRecDepth 20000 in
theorem kw_429 : (Cond.code yX6_hash cX6_hash 4 (some .int)) ∈ TT := tt_2 (List.mem_of_getElem? (i := 177) rfl) rfl
theorem kw_430 : (Cond.methodLink RL 39 yX7_hash) ∈ TT := tt_3 (List.mem_of_getElem? (i := 218) (by decide +kernel)) rfl
theorem kw_431 : (Cond.instanceMethod yX7_hash) ∈ TT := tt_3 (List.mem_of_getElem? (i := 219) (by decide +kernel)) rfl
theorem kw_432 : (Cond.selects RX7 yX7_hash yX7_hash) ∈ TT := tt_3 (List.mem_of_getElem? (i := 220) (by decide +kernel)) rfl
set_option maxRecDepth 20000 in
theorem kw_433 : (Cond.code yX7_hash cX7_hash 4 (some .int)) ∈ TT := tt_3 (List.mem_of_getElem? (i := 221) rfl) rfl
theorem kw_434 : (Cond.methodLink RL 40 yX6_low) ∈ TT := tt_2 (List.mem_of_getElem? (i := 178) (by decide +kernel)) rfl
theorem kw_435 : (Cond.instanceMethod yX6_low) ∈ TT := tt_2 (List.mem_of_getElem? (i := 179) (by decide +kernel)) rfl
theorem kw_436 : (Cond.selects RX6 yX6_low yX6_low) ∈ TT := tt_2 (List.mem_of_getElem? (i := 180) (by decide +kernel)) rfl
set_option maxRecDepth 20000 in
theorem kw_437 : (Cond.code yX6_low cX6_low 4 (some .int)) ∈ TT := tt_2 (List.mem_of_getElem? (i := 181) rfl) rfl
theorem kw_438 : (Cond.methodLink RX6 84 ⟨"SketchSpans$Sketch", "atLeast", "(I)I"⟩) ∈ TT := tt_2 (List.mem_of_getElem? (i := 182) (by decide +kernel)) rfl
theorem kw_439 : (Cond.sameMethod "SketchSpans$Sketch" "SketchSpans$Sketch" "atLeast" "(I)I") ∈ TT := tt_2 (List.mem_of_getElem? (i := 184) (by decide +kernel)) rfl
theorem kw_440 : (Cond.selects RX0 ⟨"SketchSpans$Sketch", "atLeast", "(I)I"⟩ yX4_atLeast) ∈ TT := tt_2 (List.mem_of_getElem? (i := 185) (by decide +kernel)) rfl
theorem kw_441 : (Cond.instanceMethod yX4_atLeast) ∈ TT := tt_2 (List.mem_of_getElem? (i := 183) (by decide +kernel)) rfl
set_option maxRecDepth 20000 in
theorem kw_442 : (Cond.code yX4_atLeast cX4_atLeast 2 (some .int)) ∈ TT := tt_2 (List.mem_of_getElem? (i := 201) rfl) rfl
theorem kw_443 : (Cond.instanceMethod ⟨"SketchSpans$Sketch", "atLeast", "(I)I"⟩) ∈ TT := tt_2 (List.mem_of_getElem? (i := 183) (by decide +kernel)) rfl
theorem kw_444 : (Cond.selects RX1 ⟨"SketchSpans$Sketch", "atLeast", "(I)I"⟩ yX1_atLeast) ∈ TT := tt_2 (List.mem_of_getElem? (i := 186) (by decide +kernel)) rfl
theorem kw_445 : (Cond.instanceMethod yX1_atLeast) ∈ TT := tt_2 (List.mem_of_getElem? (i := 187) (by decide +kernel)) rfl
set_option maxRecDepth 20000 in
theorem kw_446 : (Cond.code yX1_atLeast cX1_atLeast 3 (some .int)) ∈ TT := tt_2 (List.mem_of_getElem? (i := 188) rfl) rfl
theorem kw_447 : (Cond.selects RX2 ⟨"SketchSpans$Sketch", "atLeast", "(I)I"⟩ yX4_atLeast) ∈ TT := tt_2 (List.mem_of_getElem? (i := 189) (by decide +kernel)) rfl
theorem kw_448 : (Cond.selects RX3 ⟨"SketchSpans$Sketch", "atLeast", "(I)I"⟩ yX3_atLeast) ∈ TT := tt_2 (List.mem_of_getElem? (i := 190) (by decide +kernel)) rfl
theorem kw_449 : (Cond.instanceMethod yX3_atLeast) ∈ TT := tt_2 (List.mem_of_getElem? (i := 191) (by decide +kernel)) rfl
set_option maxRecDepth 20000 in
theorem kw_450 : (Cond.code yX3_atLeast cX3_atLeast 2 (some .int)) ∈ TT := tt_2 (List.mem_of_getElem? (i := 192) rfl) rfl
theorem kw_451 : (Cond.methodLink RX3 57 Lib.Math.max.name) ∈ TT := tt_2 (List.mem_of_getElem? (i := 197) (by decide +kernel)) rfl
theorem kw_452 : (Cond.static Lib.Math.max.name) ∈ TT := tt_2 (List.mem_of_getElem? (i := 198) (by decide +kernel)) rfl
set_option maxRecDepth 20000 in
theorem kw_453 : (Cond.code Lib.Math.max.name Lib.Math.max.code 2 (some .int)) ∈ TT := tt_2 (List.mem_of_getElem? (i := 199) rfl) rfl
theorem kw_454 : (Cond.methodLink RX3 53 yX3_weightUpTo) ∈ TT := tt_2 (List.mem_of_getElem? (i := 193) (by decide +kernel)) rfl
theorem kw_455 : (Cond.instanceMethod yX3_weightUpTo) ∈ TT := tt_2 (List.mem_of_getElem? (i := 195) (by decide +kernel)) rfl
theorem kw_456 : (Cond.selects RX3 yX3_weightUpTo yX3_weightUpTo) ∈ TT := tt_s (List.mem_of_getElem? (i := 13) (by decide +kernel)) rfl
set_option maxRecDepth 20000 in
theorem kw_457 : (Cond.code yX3_weightUpTo cX3_weightUpTo 5 (some .int)) ∈ TT := tt_2 (List.mem_of_getElem? (i := 196) rfl) rfl
theorem kw_458 : (Cond.selects RX5 ⟨"SketchSpans$Sketch", "atLeast", "(I)I"⟩ yX4_atLeast) ∈ TT := tt_2 (List.mem_of_getElem? (i := 200) (by decide +kernel)) rfl
theorem kw_459 : (Cond.methodLink RL 43 yX7_low) ∈ TT := tt_3 (List.mem_of_getElem? (i := 222) (by decide +kernel)) rfl
theorem kw_460 : (Cond.instanceMethod yX7_low) ∈ TT := tt_3 (List.mem_of_getElem? (i := 223) (by decide +kernel)) rfl
theorem kw_461 : (Cond.selects RX7 yX7_low yX7_low) ∈ TT := tt_3 (List.mem_of_getElem? (i := 224) (by decide +kernel)) rfl
set_option maxRecDepth 20000 in
theorem kw_462 : (Cond.code yX7_low cX7_low 4 (some .int)) ∈ TT := tt_3 (List.mem_of_getElem? (i := 225) rfl) rfl
theorem kw_463 : (Cond.methodLink RX7 100 yX7_isOf) ∈ TT := tt_3 (List.mem_of_getElem? (i := 226) (by decide +kernel)) rfl
theorem kw_464 : (Cond.instanceMethod yX7_isOf) ∈ TT := tt_3 (List.mem_of_getElem? (i := 228) (by decide +kernel)) rfl
theorem kw_465 : (Cond.selects RX7 yX7_isOf yX7_isOf) ∈ TT := tt_s (List.mem_of_getElem? (i := 27) (by decide +kernel)) rfl
set_option maxRecDepth 20000 in
theorem kw_466 : (Cond.code yX7_isOf cX7_isOf 4 (some .boolean)) ∈ TT := tt_3 (List.mem_of_getElem? (i := 229) rfl) rfl
theorem kw_467 : (Cond.methodLink RX7 103 yX7_isBad) ∈ TT := tt_3 (List.mem_of_getElem? (i := 230) (by decide +kernel)) rfl
theorem kw_468 : (Cond.instanceMethod yX7_isBad) ∈ TT := tt_3 (List.mem_of_getElem? (i := 232) (by decide +kernel)) rfl
theorem kw_469 : (Cond.selects RX7 yX7_isBad yX7_isBad) ∈ TT := tt_s (List.mem_of_getElem? (i := 28) (by decide +kernel)) rfl
set_option maxRecDepth 20000 in
theorem kw_470 : (Cond.code yX7_isBad cX7_isBad 4 (some .boolean)) ∈ TT := tt_3 (List.mem_of_getElem? (i := 233) rfl) rfl
theorem kw_471 : (Cond.methodLink RX7 107 yX7_numberOf) ∈ TT := tt_3 (List.mem_of_getElem? (i := 234) (by decide +kernel)) rfl
theorem kw_472 : (Cond.instanceMethod yX7_numberOf) ∈ TT := tt_3 (List.mem_of_getElem? (i := 236) (by decide +kernel)) rfl
theorem kw_473 : (Cond.selects RX7 yX7_numberOf yX7_numberOf) ∈ TT := tt_s (List.mem_of_getElem? (i := 29) (by decide +kernel)) rfl
set_option maxRecDepth 20000 in
theorem kw_474 : (Cond.code yX7_numberOf cX7_numberOf 4 (some .int)) ∈ TT := tt_3 (List.mem_of_getElem? (i := 237) rfl) rfl
theorem kw_475 : (Cond.methodLink RX7 110 yX7_weightTo) ∈ TT := tt_3 (List.mem_of_getElem? (i := 238) (by decide +kernel)) rfl
theorem kw_476 : (Cond.instanceMethod yX7_weightTo) ∈ TT := tt_4 (List.mem_of_getElem? (i := 0) (by decide +kernel)) rfl
theorem kw_477 : (Cond.selects RX7 yX7_weightTo yX7_weightTo) ∈ TT := tt_s (List.mem_of_getElem? (i := 30) (by decide +kernel)) rfl
set_option maxRecDepth 20000 in
theorem kw_478 : (Cond.code yX7_weightTo cX7_weightTo 6 (some .int)) ∈ TT := tt_4 (List.mem_of_getElem? (i := 1) rfl) rfl
theorem kw_479 : (Cond.methodLink RL 44 yX6_high) ∈ TT := tt_2 (List.mem_of_getElem? (i := 202) (by decide +kernel)) rfl
theorem kw_480 : (Cond.instanceMethod yX6_high) ∈ TT := tt_2 (List.mem_of_getElem? (i := 203) (by decide +kernel)) rfl
theorem kw_481 : (Cond.selects RX6 yX6_high yX6_high) ∈ TT := tt_2 (List.mem_of_getElem? (i := 204) (by decide +kernel)) rfl
set_option maxRecDepth 20000 in
theorem kw_482 : (Cond.code yX6_high cX6_high 4 (some .int)) ∈ TT := tt_2 (List.mem_of_getElem? (i := 205) rfl) rfl
theorem kw_483 : (Cond.methodLink RX6 87 ⟨"SketchSpans$Sketch", "atMost", "(I)I"⟩) ∈ TT := tt_2 (List.mem_of_getElem? (i := 206) (by decide +kernel)) rfl
theorem kw_484 : (Cond.sameMethod "SketchSpans$Sketch" "SketchSpans$Sketch" "atMost" "(I)I") ∈ TT := tt_2 (List.mem_of_getElem? (i := 208) (by decide +kernel)) rfl
theorem kw_485 : (Cond.selects RX0 ⟨"SketchSpans$Sketch", "atMost", "(I)I"⟩ yX4_atMost) ∈ TT := tt_2 (List.mem_of_getElem? (i := 209) (by decide +kernel)) rfl
theorem kw_486 : (Cond.instanceMethod yX4_atMost) ∈ TT := tt_2 (List.mem_of_getElem? (i := 207) (by decide +kernel)) rfl
set_option maxRecDepth 20000 in
theorem kw_487 : (Cond.code yX4_atMost cX4_atMost 2 (some .int)) ∈ TT := tt_2 (List.mem_of_getElem? (i := 224) rfl) rfl
theorem kw_488 : (Cond.instanceMethod ⟨"SketchSpans$Sketch", "atMost", "(I)I"⟩) ∈ TT := tt_2 (List.mem_of_getElem? (i := 207) (by decide +kernel)) rfl
theorem kw_489 : (Cond.selects RX1 ⟨"SketchSpans$Sketch", "atMost", "(I)I"⟩ yX1_atMost) ∈ TT := tt_2 (List.mem_of_getElem? (i := 210) (by decide +kernel)) rfl
theorem kw_490 : (Cond.instanceMethod yX1_atMost) ∈ TT := tt_2 (List.mem_of_getElem? (i := 211) (by decide +kernel)) rfl
set_option maxRecDepth 20000 in
theorem kw_491 : (Cond.code yX1_atMost cX1_atMost 2 (some .int)) ∈ TT := tt_2 (List.mem_of_getElem? (i := 212) rfl) rfl
theorem kw_492 : (Cond.methodLink RX1 65 yX1_atLeast) ∈ TT := tt_2 (List.mem_of_getElem? (i := 213) (by decide +kernel)) rfl
theorem kw_493 : (Cond.selects RX1 yX1_atLeast yX1_atLeast) ∈ TT := tt_4 (List.mem_of_getElem? (i := 38) (by decide +kernel)) rfl
theorem kw_494 : (Cond.selects RX2 ⟨"SketchSpans$Sketch", "atMost", "(I)I"⟩ yX4_atMost) ∈ TT := tt_2 (List.mem_of_getElem? (i := 214) (by decide +kernel)) rfl
theorem kw_495 : (Cond.selects RX3 ⟨"SketchSpans$Sketch", "atMost", "(I)I"⟩ yX3_atMost) ∈ TT := tt_2 (List.mem_of_getElem? (i := 215) (by decide +kernel)) rfl
theorem kw_496 : (Cond.instanceMethod yX3_atMost) ∈ TT := tt_2 (List.mem_of_getElem? (i := 216) (by decide +kernel)) rfl
set_option maxRecDepth 20000 in
theorem kw_497 : (Cond.code yX3_atMost cX3_atMost 2 (some .int)) ∈ TT := tt_2 (List.mem_of_getElem? (i := 217) rfl) rfl
theorem kw_498 : (Cond.fieldLink RX3 62 "SketchSpans$Ranks" "total" "I") ∈ TT := tt_1 (List.mem_of_getElem? (i := 88) (by decide +kernel)) rfl
theorem kw_499 : (Cond.sameField "SketchSpans$Ranks" "SketchSpans$Sketch" "total" "I") ∈ TT := tt_1 (List.mem_of_getElem? (i := 89) (by decide +kernel)) rfl
theorem kw_500 : (Cond.methodLink RX3 65 Lib.Math.min.name) ∈ TT := tt_2 (List.mem_of_getElem? (i := 218) (by decide +kernel)) rfl
theorem kw_501 : (Cond.selects RX5 ⟨"SketchSpans$Sketch", "atMost", "(I)I"⟩ yX5_atMost) ∈ TT := tt_2 (List.mem_of_getElem? (i := 219) (by decide +kernel)) rfl
theorem kw_502 : (Cond.instanceMethod yX5_atMost) ∈ TT := tt_2 (List.mem_of_getElem? (i := 220) (by decide +kernel)) rfl
set_option maxRecDepth 20000 in
theorem kw_503 : (Cond.code yX5_atMost cX5_atMost 5 (some .int)) ∈ TT := tt_2 (List.mem_of_getElem? (i := 221) rfl) rfl
theorem kw_504 : (Cond.constant RX5 45 (10000000)) ∈ TT := tt_2 (List.mem_of_getElem? (i := 222) (by decide +kernel)) rfl
theorem kw_505 : (Cond.methodLink RX5 46 Lib.Math.min.name) ∈ TT := tt_2 (List.mem_of_getElem? (i := 223) (by decide +kernel)) rfl
theorem kw_506 : (Cond.methodLink RL 47 yX7_high) ∈ TT := tt_4 (List.mem_of_getElem? (i := 2) (by decide +kernel)) rfl
theorem kw_507 : (Cond.instanceMethod yX7_high) ∈ TT := tt_4 (List.mem_of_getElem? (i := 3) (by decide +kernel)) rfl
theorem kw_508 : (Cond.selects RX7 yX7_high yX7_high) ∈ TT := tt_4 (List.mem_of_getElem? (i := 4) (by decide +kernel)) rfl
set_option maxRecDepth 20000 in
theorem kw_509 : (Cond.code yX7_high cX7_high 5 (some .int)) ∈ TT := tt_4 (List.mem_of_getElem? (i := 5) rfl) rfl
theorem kw_510 : (Cond.methodLink RL 48 yX6_has) ∈ TT := tt_2 (List.mem_of_getElem? (i := 225) (by decide +kernel)) rfl
theorem kw_511 : (Cond.instanceMethod yX6_has) ∈ TT := tt_2 (List.mem_of_getElem? (i := 226) (by decide +kernel)) rfl
theorem kw_512 : (Cond.selects RX6 yX6_has yX6_has) ∈ TT := tt_2 (List.mem_of_getElem? (i := 227) (by decide +kernel)) rfl
set_option maxRecDepth 20000 in
theorem kw_513 : (Cond.code yX6_has cX6_has 4 (some .int)) ∈ TT := tt_2 (List.mem_of_getElem? (i := 228) rfl) rfl
theorem kw_514 : (Cond.methodLink RX6 90 ⟨"SketchSpans$Sketch", "holds", "(I)I"⟩) ∈ TT := tt_2 (List.mem_of_getElem? (i := 229) (by decide +kernel)) rfl
theorem kw_515 : (Cond.sameMethod "SketchSpans$Sketch" "SketchSpans$Sketch" "holds" "(I)I") ∈ TT := tt_2 (List.mem_of_getElem? (i := 231) (by decide +kernel)) rfl
theorem kw_516 : (Cond.instanceMethod ⟨"SketchSpans$Sketch", "holds", "(I)I"⟩) ∈ TT := tt_2 (List.mem_of_getElem? (i := 230) (by decide +kernel)) rfl
theorem kw_517 : (Cond.selects RX0 ⟨"SketchSpans$Sketch", "holds", "(I)I"⟩ yX0_holds) ∈ TT := tt_2 (List.mem_of_getElem? (i := 232) (by decide +kernel)) rfl
theorem kw_518 : (Cond.instanceMethod yX0_holds) ∈ TT := tt_2 (List.mem_of_getElem? (i := 233) (by decide +kernel)) rfl
set_option maxRecDepth 20000 in
theorem kw_519 : (Cond.code yX0_holds cX0_holds 5 (some .int)) ∈ TT := tt_2 (List.mem_of_getElem? (i := 234) rfl) rfl
set_option maxRecDepth 20000 in
theorem kw_520 : (Cond.code yX4_holds cX4_holds 2 (some .int)) ∈ TT := tt_3 (List.mem_of_getElem? (i := 1) rfl) rfl
theorem kw_521 : (Cond.selects RX1 ⟨"SketchSpans$Sketch", "holds", "(I)I"⟩ yX4_holds) ∈ TT := tt_2 (List.mem_of_getElem? (i := 235) (by decide +kernel)) rfl
theorem kw_522 : (Cond.instanceMethod yX4_holds) ∈ TT := tt_2 (List.mem_of_getElem? (i := 230) (by decide +kernel)) rfl
theorem kw_523 : (Cond.selects RX2 ⟨"SketchSpans$Sketch", "holds", "(I)I"⟩ yX2_holds) ∈ TT := tt_2 (List.mem_of_getElem? (i := 236) (by decide +kernel)) rfl
theorem kw_524 : (Cond.instanceMethod yX2_holds) ∈ TT := tt_2 (List.mem_of_getElem? (i := 237) (by decide +kernel)) rfl
set_option maxRecDepth 20000 in
theorem kw_525 : (Cond.code yX2_holds cX2_holds 3 (some .int)) ∈ TT := tt_2 (List.mem_of_getElem? (i := 238) rfl) rfl
theorem kw_526 : (Cond.selects RX3 ⟨"SketchSpans$Sketch", "holds", "(I)I"⟩ yX4_holds) ∈ TT := tt_2 (List.mem_of_getElem? (i := 239) (by decide +kernel)) rfl
theorem kw_527 : (Cond.selects RX5 ⟨"SketchSpans$Sketch", "holds", "(I)I"⟩ yX4_holds) ∈ TT := tt_3 (List.mem_of_getElem? (i := 0) (by decide +kernel)) rfl
theorem kw_528 : (Cond.methodLink RL 51 yX7_has) ∈ TT := tt_4 (List.mem_of_getElem? (i := 6) (by decide +kernel)) rfl
theorem kw_529 : (Cond.instanceMethod yX7_has) ∈ TT := tt_4 (List.mem_of_getElem? (i := 7) (by decide +kernel)) rfl
theorem kw_530 : (Cond.selects RX7 yX7_has yX7_has) ∈ TT := tt_4 (List.mem_of_getElem? (i := 8) (by decide +kernel)) rfl
set_option maxRecDepth 20000 in
theorem kw_531 : (Cond.code yX7_has cX7_has 6 (some .int)) ∈ TT := tt_4 (List.mem_of_getElem? (i := 9) rfl) rfl
theorem kw_532 : (Cond.methodLink RL 52 yX6_distinct) ∈ TT := tt_3 (List.mem_of_getElem? (i := 2) (by decide +kernel)) rfl
theorem kw_533 : (Cond.instanceMethod yX6_distinct) ∈ TT := tt_3 (List.mem_of_getElem? (i := 3) (by decide +kernel)) rfl
theorem kw_534 : (Cond.selects RX6 yX6_distinct yX6_distinct) ∈ TT := tt_3 (List.mem_of_getElem? (i := 4) (by decide +kernel)) rfl
set_option maxRecDepth 20000 in
theorem kw_535 : (Cond.code yX6_distinct cX6_distinct 3 (some .int)) ∈ TT := tt_3 (List.mem_of_getElem? (i := 5) rfl) rfl
theorem kw_536 : (Cond.methodLink RX6 93 ⟨"SketchSpans$Sketch", "differentKeys", "()I"⟩) ∈ TT := tt_3 (List.mem_of_getElem? (i := 6) (by decide +kernel)) rfl
theorem kw_537 : (Cond.sameMethod "SketchSpans$Sketch" "SketchSpans$Sketch" "differentKeys" "()I") ∈ TT := tt_3 (List.mem_of_getElem? (i := 8) (by decide +kernel)) rfl
theorem kw_538 : (Cond.selects RX0 ⟨"SketchSpans$Sketch", "differentKeys", "()I"⟩ yX4_differentKeys) ∈ TT := tt_3 (List.mem_of_getElem? (i := 9) (by decide +kernel)) rfl
theorem kw_539 : (Cond.instanceMethod yX4_differentKeys) ∈ TT := tt_3 (List.mem_of_getElem? (i := 7) (by decide +kernel)) rfl
set_option maxRecDepth 20000 in
theorem kw_540 : (Cond.code yX4_differentKeys cX4_differentKeys 1 (some .int)) ∈ TT := tt_3 (List.mem_of_getElem? (i := 17) rfl) rfl
theorem kw_541 : (Cond.selects RX1 ⟨"SketchSpans$Sketch", "differentKeys", "()I"⟩ yX4_differentKeys) ∈ TT := tt_3 (List.mem_of_getElem? (i := 10) (by decide +kernel)) rfl
theorem kw_542 : (Cond.instanceMethod ⟨"SketchSpans$Sketch", "differentKeys", "()I"⟩) ∈ TT := tt_3 (List.mem_of_getElem? (i := 7) (by decide +kernel)) rfl
theorem kw_543 : (Cond.selects RX2 ⟨"SketchSpans$Sketch", "differentKeys", "()I"⟩ yX2_differentKeys) ∈ TT := tt_3 (List.mem_of_getElem? (i := 11) (by decide +kernel)) rfl
theorem kw_544 : (Cond.instanceMethod yX2_differentKeys) ∈ TT := tt_3 (List.mem_of_getElem? (i := 12) (by decide +kernel)) rfl
set_option maxRecDepth 20000 in
theorem kw_545 : (Cond.code yX2_differentKeys cX2_differentKeys 2 (some .int)) ∈ TT := tt_3 (List.mem_of_getElem? (i := 13) rfl) rfl
theorem kw_546 : (Cond.constant RX2 52 (65537)) ∈ TT := tt_3 (List.mem_of_getElem? (i := 14) (by decide +kernel)) rfl
theorem kw_547 : (Cond.selects RX3 ⟨"SketchSpans$Sketch", "differentKeys", "()I"⟩ yX4_differentKeys) ∈ TT := tt_3 (List.mem_of_getElem? (i := 15) (by decide +kernel)) rfl
theorem kw_548 : (Cond.selects RX5 ⟨"SketchSpans$Sketch", "differentKeys", "()I"⟩ yX4_differentKeys) ∈ TT := tt_3 (List.mem_of_getElem? (i := 16) (by decide +kernel)) rfl
theorem kw_549 : (Cond.methodLink RL 55 yX7_distinct) ∈ TT := tt_4 (List.mem_of_getElem? (i := 10) (by decide +kernel)) rfl
theorem kw_550 : (Cond.instanceMethod yX7_distinct) ∈ TT := tt_4 (List.mem_of_getElem? (i := 11) (by decide +kernel)) rfl
theorem kw_551 : (Cond.selects RX7 yX7_distinct yX7_distinct) ∈ TT := tt_4 (List.mem_of_getElem? (i := 12) (by decide +kernel)) rfl
set_option maxRecDepth 20000 in
theorem kw_552 : (Cond.code yX7_distinct cX7_distinct 4 (some .int)) ∈ TT := tt_4 (List.mem_of_getElem? (i := 13) rfl) rfl
theorem kw_553 : (Cond.methodLink RL 56 yX6_quantile) ∈ TT := tt_3 (List.mem_of_getElem? (i := 18) (by decide +kernel)) rfl
theorem kw_554 : (Cond.instanceMethod yX6_quantile) ∈ TT := tt_3 (List.mem_of_getElem? (i := 19) (by decide +kernel)) rfl
theorem kw_555 : (Cond.selects RX6 yX6_quantile yX6_quantile) ∈ TT := tt_3 (List.mem_of_getElem? (i := 20) (by decide +kernel)) rfl
set_option maxRecDepth 20000 in
theorem kw_556 : (Cond.code yX6_quantile cX6_quantile 4 (some .int)) ∈ TT := tt_3 (List.mem_of_getElem? (i := 21) rfl) rfl
theorem kw_557 : (Cond.methodLink RX6 97 ⟨"SketchSpans$Sketch", "keyAtRank", "(I)I"⟩) ∈ TT := tt_3 (List.mem_of_getElem? (i := 22) (by decide +kernel)) rfl
theorem kw_558 : (Cond.sameMethod "SketchSpans$Sketch" "SketchSpans$Sketch" "keyAtRank" "(I)I") ∈ TT := tt_3 (List.mem_of_getElem? (i := 24) (by decide +kernel)) rfl
theorem kw_559 : (Cond.selects RX0 ⟨"SketchSpans$Sketch", "keyAtRank", "(I)I"⟩ yX4_keyAtRank) ∈ TT := tt_3 (List.mem_of_getElem? (i := 25) (by decide +kernel)) rfl
theorem kw_560 : (Cond.instanceMethod yX4_keyAtRank) ∈ TT := tt_3 (List.mem_of_getElem? (i := 23) (by decide +kernel)) rfl
set_option maxRecDepth 20000 in
theorem kw_561 : (Cond.code yX4_keyAtRank cX4_keyAtRank 2 (some .int)) ∈ TT := tt_3 (List.mem_of_getElem? (i := 32) rfl) rfl
theorem kw_562 : (Cond.selects RX1 ⟨"SketchSpans$Sketch", "keyAtRank", "(I)I"⟩ yX4_keyAtRank) ∈ TT := tt_3 (List.mem_of_getElem? (i := 26) (by decide +kernel)) rfl
theorem kw_563 : (Cond.selects RX2 ⟨"SketchSpans$Sketch", "keyAtRank", "(I)I"⟩ yX4_keyAtRank) ∈ TT := tt_3 (List.mem_of_getElem? (i := 27) (by decide +kernel)) rfl
theorem kw_564 : (Cond.instanceMethod ⟨"SketchSpans$Sketch", "keyAtRank", "(I)I"⟩) ∈ TT := tt_3 (List.mem_of_getElem? (i := 23) (by decide +kernel)) rfl
theorem kw_565 : (Cond.selects RX3 ⟨"SketchSpans$Sketch", "keyAtRank", "(I)I"⟩ yX3_keyAtRank) ∈ TT := tt_3 (List.mem_of_getElem? (i := 28) (by decide +kernel)) rfl
theorem kw_566 : (Cond.instanceMethod yX3_keyAtRank) ∈ TT := tt_3 (List.mem_of_getElem? (i := 29) (by decide +kernel)) rfl
set_option maxRecDepth 20000 in
theorem kw_567 : (Cond.code yX3_keyAtRank cX3_keyAtRank 6 (some .int)) ∈ TT := tt_3 (List.mem_of_getElem? (i := 30) rfl) rfl
theorem kw_568 : (Cond.selects RX5 ⟨"SketchSpans$Sketch", "keyAtRank", "(I)I"⟩ yX4_keyAtRank) ∈ TT := tt_3 (List.mem_of_getElem? (i := 31) (by decide +kernel)) rfl
theorem kw_569 : (Cond.methodLink RL 59 yX7_quantile) ∈ TT := tt_4 (List.mem_of_getElem? (i := 14) (by decide +kernel)) rfl
theorem kw_570 : (Cond.instanceMethod yX7_quantile) ∈ TT := tt_4 (List.mem_of_getElem? (i := 15) (by decide +kernel)) rfl
theorem kw_571 : (Cond.selects RX7 yX7_quantile yX7_quantile) ∈ TT := tt_4 (List.mem_of_getElem? (i := 16) (by decide +kernel)) rfl
set_option maxRecDepth 20000 in
theorem kw_572 : (Cond.code yX7_quantile cX7_quantile 6 (some .int)) ∈ TT := tt_4 (List.mem_of_getElem? (i := 17) rfl) rfl
theorem kw_573 : (Cond.methodLink RL 60 yX6_told) ∈ TT := tt_3 (List.mem_of_getElem? (i := 33) (by decide +kernel)) rfl
theorem kw_574 : (Cond.instanceMethod yX6_told) ∈ TT := tt_3 (List.mem_of_getElem? (i := 34) (by decide +kernel)) rfl
theorem kw_575 : (Cond.selects RX6 yX6_told yX6_told) ∈ TT := tt_3 (List.mem_of_getElem? (i := 35) (by decide +kernel)) rfl
set_option maxRecDepth 20000 in
theorem kw_576 : (Cond.code yX6_told cX6_told 4 (some .int)) ∈ TT := tt_3 (List.mem_of_getElem? (i := 36) rfl) rfl
theorem kw_577 : (Cond.fieldLink RX6 100 "SketchSpans$Sketch" "sort" "I") ∈ TT := tt_1 (List.mem_of_getElem? (i := 61) (by decide +kernel)) rfl
theorem kw_578 : (Cond.fieldLink RX6 103 "SketchSpans$Sketch" "size" "I") ∈ TT := tt_1 (List.mem_of_getElem? (i := 73) (by decide +kernel)) rfl
theorem kw_579 : (Cond.fieldLink RX6 106 "SketchSpans$Sketch" "seed" "I") ∈ TT := tt_1 (List.mem_of_getElem? (i := 85) (by decide +kernel)) rfl
theorem kw_580 : (Cond.methodLink RX6 109 ⟨"SketchSpans$Sketch", "mayLack", "()I"⟩) ∈ TT := tt_3 (List.mem_of_getElem? (i := 37) (by decide +kernel)) rfl
theorem kw_581 : (Cond.sameMethod "SketchSpans$Sketch" "SketchSpans$Sketch" "mayLack" "()I") ∈ TT := tt_3 (List.mem_of_getElem? (i := 39) (by decide +kernel)) rfl
theorem kw_582 : (Cond.selects RX0 ⟨"SketchSpans$Sketch", "mayLack", "()I"⟩ yX4_mayLack) ∈ TT := tt_3 (List.mem_of_getElem? (i := 40) (by decide +kernel)) rfl
theorem kw_583 : (Cond.instanceMethod yX4_mayLack) ∈ TT := tt_3 (List.mem_of_getElem? (i := 38) (by decide +kernel)) rfl
set_option maxRecDepth 20000 in
theorem kw_584 : (Cond.code yX4_mayLack cX4_mayLack 1 (some .int)) ∈ TT := tt_3 (List.mem_of_getElem? (i := 49) rfl) rfl
theorem kw_585 : (Cond.instanceMethod ⟨"SketchSpans$Sketch", "mayLack", "()I"⟩) ∈ TT := tt_3 (List.mem_of_getElem? (i := 38) (by decide +kernel)) rfl
theorem kw_586 : (Cond.selects RX1 ⟨"SketchSpans$Sketch", "mayLack", "()I"⟩ yX1_mayLack) ∈ TT := tt_3 (List.mem_of_getElem? (i := 41) (by decide +kernel)) rfl
theorem kw_587 : (Cond.instanceMethod yX1_mayLack) ∈ TT := tt_3 (List.mem_of_getElem? (i := 42) (by decide +kernel)) rfl
set_option maxRecDepth 20000 in
theorem kw_588 : (Cond.code yX1_mayLack cX1_mayLack 1 (some .int)) ∈ TT := tt_3 (List.mem_of_getElem? (i := 43) rfl) rfl
theorem kw_589 : (Cond.selects RX2 ⟨"SketchSpans$Sketch", "mayLack", "()I"⟩ yX4_mayLack) ∈ TT := tt_3 (List.mem_of_getElem? (i := 44) (by decide +kernel)) rfl
theorem kw_590 : (Cond.selects RX3 ⟨"SketchSpans$Sketch", "mayLack", "()I"⟩ yX3_mayLack) ∈ TT := tt_3 (List.mem_of_getElem? (i := 45) (by decide +kernel)) rfl
theorem kw_591 : (Cond.instanceMethod yX3_mayLack) ∈ TT := tt_3 (List.mem_of_getElem? (i := 46) (by decide +kernel)) rfl
set_option maxRecDepth 20000 in
theorem kw_592 : (Cond.code yX3_mayLack cX3_mayLack 1 (some .int)) ∈ TT := tt_3 (List.mem_of_getElem? (i := 47) rfl) rfl
theorem kw_593 : (Cond.selects RX5 ⟨"SketchSpans$Sketch", "mayLack", "()I"⟩ yX4_mayLack) ∈ TT := tt_3 (List.mem_of_getElem? (i := 48) (by decide +kernel)) rfl
theorem kw_594 : (Cond.methodLink RX6 112 ⟨"SketchSpans$Sketch", "howManyKept", "()I"⟩) ∈ TT := tt_3 (List.mem_of_getElem? (i := 50) (by decide +kernel)) rfl
theorem kw_595 : (Cond.sameMethod "SketchSpans$Sketch" "SketchSpans$Sketch" "howManyKept" "()I") ∈ TT := tt_3 (List.mem_of_getElem? (i := 52) (by decide +kernel)) rfl
theorem kw_596 : (Cond.selects RX0 ⟨"SketchSpans$Sketch", "howManyKept", "()I"⟩ yX0_howManyKept) ∈ TT := tt_3 (List.mem_of_getElem? (i := 53) (by decide +kernel)) rfl
theorem kw_597 : (Cond.instanceMethod yX0_howManyKept) ∈ TT := tt_3 (List.mem_of_getElem? (i := 54) (by decide +kernel)) rfl
set_option maxRecDepth 20000 in
theorem kw_598 : (Cond.code yX0_howManyKept cX0_howManyKept 1 (some .int)) ∈ TT := tt_3 (List.mem_of_getElem? (i := 55) rfl) rfl
theorem kw_599 : (Cond.static yX6_countNotZero) ∈ TT := tt_3 (List.mem_of_getElem? (i := 57) (by decide +kernel)) rfl
set_option maxRecDepth 20000 in
theorem kw_600 : (Cond.code yX6_countNotZero cX6_countNotZero 3 (some .int)) ∈ TT := tt_3 (List.mem_of_getElem? (i := 58) rfl) rfl
theorem kw_601 : (Cond.selects RX1 ⟨"SketchSpans$Sketch", "howManyKept", "()I"⟩ yX1_howManyKept) ∈ TT := tt_3 (List.mem_of_getElem? (i := 59) (by decide +kernel)) rfl
theorem kw_602 : (Cond.instanceMethod yX1_howManyKept) ∈ TT := tt_3 (List.mem_of_getElem? (i := 60) (by decide +kernel)) rfl
set_option maxRecDepth 20000 in
theorem kw_603 : (Cond.code yX1_howManyKept cX1_howManyKept 1 (some .int)) ∈ TT := tt_3 (List.mem_of_getElem? (i := 61) rfl) rfl
theorem kw_604 : (Cond.selects RX2 ⟨"SketchSpans$Sketch", "howManyKept", "()I"⟩ yX2_howManyKept) ∈ TT := tt_3 (List.mem_of_getElem? (i := 62) (by decide +kernel)) rfl
theorem kw_605 : (Cond.instanceMethod yX2_howManyKept) ∈ TT := tt_3 (List.mem_of_getElem? (i := 63) (by decide +kernel)) rfl
set_option maxRecDepth 20000 in
theorem kw_606 : (Cond.code yX2_howManyKept cX2_howManyKept 1 (some .int)) ∈ TT := tt_3 (List.mem_of_getElem? (i := 64) rfl) rfl
theorem kw_607 : (Cond.selects RX3 ⟨"SketchSpans$Sketch", "howManyKept", "()I"⟩ yX3_howManyKept) ∈ TT := tt_3 (List.mem_of_getElem? (i := 65) (by decide +kernel)) rfl
theorem kw_608 : (Cond.instanceMethod yX3_howManyKept) ∈ TT := tt_3 (List.mem_of_getElem? (i := 66) (by decide +kernel)) rfl
set_option maxRecDepth 20000 in
theorem kw_609 : (Cond.code yX3_howManyKept cX3_howManyKept 3 (some .int)) ∈ TT := tt_3 (List.mem_of_getElem? (i := 67) rfl) rfl
theorem kw_610 : (Cond.selects RX5 ⟨"SketchSpans$Sketch", "howManyKept", "()I"⟩ yX5_howManyKept) ∈ TT := tt_3 (List.mem_of_getElem? (i := 68) (by decide +kernel)) rfl
theorem kw_611 : (Cond.instanceMethod yX5_howManyKept) ∈ TT := tt_3 (List.mem_of_getElem? (i := 69) (by decide +kernel)) rfl
set_option maxRecDepth 20000 in
theorem kw_612 : (Cond.code yX5_howManyKept cX5_howManyKept 1 (some .int)) ∈ TT := tt_3 (List.mem_of_getElem? (i := 70) rfl) rfl
theorem kw_613 : (Cond.methodLink RL 63 yX7_told) ∈ TT := tt_4 (List.mem_of_getElem? (i := 18) (by decide +kernel)) rfl
theorem kw_614 : (Cond.instanceMethod yX7_told) ∈ TT := tt_4 (List.mem_of_getElem? (i := 19) (by decide +kernel)) rfl
theorem kw_615 : (Cond.selects RX7 yX7_told yX7_told) ∈ TT := tt_4 (List.mem_of_getElem? (i := 20) (by decide +kernel)) rfl
set_option maxRecDepth 20000 in
theorem kw_616 : (Cond.code yX7_told cX7_told 3 (some .int)) ∈ TT := tt_4 (List.mem_of_getElem? (i := 21) rfl) rfl
theorem kw_617 : (Cond.methodLink RX7 113 yX7_keptOf) ∈ TT := tt_4 (List.mem_of_getElem? (i := 22) (by decide +kernel)) rfl
theorem kw_618 : (Cond.instanceMethod yX7_keptOf) ∈ TT := tt_4 (List.mem_of_getElem? (i := 24) (by decide +kernel)) rfl
theorem kw_619 : (Cond.selects RX7 yX7_keptOf yX7_keptOf) ∈ TT := tt_s (List.mem_of_getElem? (i := 31) (by decide +kernel)) rfl
set_option maxRecDepth 20000 in
theorem kw_620 : (Cond.code yX7_keptOf cX7_keptOf 4 (some .int)) ∈ TT := tt_4 (List.mem_of_getElem? (i := 25) rfl) rfl
theorem kw_621 : (Cond.methodLink RL 64 yX6_kept) ∈ TT := tt_3 (List.mem_of_getElem? (i := 72) (by decide +kernel)) rfl
theorem kw_622 : (Cond.instanceMethod yX6_kept) ∈ TT := tt_3 (List.mem_of_getElem? (i := 73) (by decide +kernel)) rfl
theorem kw_623 : (Cond.selects RX6 yX6_kept yX6_kept) ∈ TT := tt_3 (List.mem_of_getElem? (i := 74) (by decide +kernel)) rfl
set_option maxRecDepth 20000 in
theorem kw_624 : (Cond.code yX6_kept cX6_kept 5 (some .int)) ∈ TT := tt_3 (List.mem_of_getElem? (i := 75) rfl) rfl
theorem kw_625 : (Cond.methodLink RX6 115 ⟨"SketchSpans$Sketch", "keptAt", "(II)I"⟩) ∈ TT := tt_3 (List.mem_of_getElem? (i := 76) (by decide +kernel)) rfl
theorem kw_626 : (Cond.sameMethod "SketchSpans$Sketch" "SketchSpans$Sketch" "keptAt" "(II)I") ∈ TT := tt_3 (List.mem_of_getElem? (i := 78) (by decide +kernel)) rfl
theorem kw_627 : (Cond.selects RX0 ⟨"SketchSpans$Sketch", "keptAt", "(II)I"⟩ yX0_keptAt) ∈ TT := tt_3 (List.mem_of_getElem? (i := 79) (by decide +kernel)) rfl
theorem kw_628 : (Cond.instanceMethod yX0_keptAt) ∈ TT := tt_3 (List.mem_of_getElem? (i := 80) (by decide +kernel)) rfl
set_option maxRecDepth 20000 in
theorem kw_629 : (Cond.code yX0_keptAt cX0_keptAt 3 (some .int)) ∈ TT := tt_3 (List.mem_of_getElem? (i := 81) rfl) rfl
theorem kw_630 : (Cond.selects RX1 ⟨"SketchSpans$Sketch", "keptAt", "(II)I"⟩ yX1_keptAt) ∈ TT := tt_3 (List.mem_of_getElem? (i := 82) (by decide +kernel)) rfl
theorem kw_631 : (Cond.instanceMethod yX1_keptAt) ∈ TT := tt_3 (List.mem_of_getElem? (i := 83) (by decide +kernel)) rfl
set_option maxRecDepth 20000 in
theorem kw_632 : (Cond.code yX1_keptAt cX1_keptAt 3 (some .int)) ∈ TT := tt_3 (List.mem_of_getElem? (i := 84) rfl) rfl
theorem kw_633 : (Cond.selects RX2 ⟨"SketchSpans$Sketch", "keptAt", "(II)I"⟩ yX2_keptAt) ∈ TT := tt_3 (List.mem_of_getElem? (i := 85) (by decide +kernel)) rfl
theorem kw_634 : (Cond.instanceMethod yX2_keptAt) ∈ TT := tt_3 (List.mem_of_getElem? (i := 86) (by decide +kernel)) rfl
set_option maxRecDepth 20000 in
theorem kw_635 : (Cond.code yX2_keptAt cX2_keptAt 3 (some .int)) ∈ TT := tt_3 (List.mem_of_getElem? (i := 87) rfl) rfl
theorem kw_636 : (Cond.selects RX3 ⟨"SketchSpans$Sketch", "keptAt", "(II)I"⟩ yX3_keptAt) ∈ TT := tt_3 (List.mem_of_getElem? (i := 88) (by decide +kernel)) rfl
theorem kw_637 : (Cond.instanceMethod yX3_keptAt) ∈ TT := tt_3 (List.mem_of_getElem? (i := 89) (by decide +kernel)) rfl
set_option maxRecDepth 20000 in
theorem kw_638 : (Cond.code yX3_keptAt cX3_keptAt 3 (some .int)) ∈ TT := tt_3 (List.mem_of_getElem? (i := 90) rfl) rfl
theorem kw_639 : (Cond.selects RX5 ⟨"SketchSpans$Sketch", "keptAt", "(II)I"⟩ yX5_keptAt) ∈ TT := tt_3 (List.mem_of_getElem? (i := 91) (by decide +kernel)) rfl
theorem kw_640 : (Cond.instanceMethod yX5_keptAt) ∈ TT := tt_3 (List.mem_of_getElem? (i := 92) (by decide +kernel)) rfl
set_option maxRecDepth 20000 in
theorem kw_641 : (Cond.code yX5_keptAt cX5_keptAt 3 (some .int)) ∈ TT := tt_3 (List.mem_of_getElem? (i := 93) rfl) rfl
theorem kw_642 : (Cond.methodLink RL 67 yX7_kept) ∈ TT := tt_4 (List.mem_of_getElem? (i := 26) (by decide +kernel)) rfl
theorem kw_643 : (Cond.instanceMethod yX7_kept) ∈ TT := tt_4 (List.mem_of_getElem? (i := 27) (by decide +kernel)) rfl
theorem kw_644 : (Cond.selects RX7 yX7_kept yX7_kept) ∈ TT := tt_4 (List.mem_of_getElem? (i := 28) (by decide +kernel)) rfl
set_option maxRecDepth 20000 in
theorem kw_645 : (Cond.code yX7_kept cX7_kept 5 (some .int)) ∈ TT := tt_4 (List.mem_of_getElem? (i := 29) rfl) rfl
theorem kw_646 : (Cond.methodLink RX7 116 yX7_nth) ∈ TT := tt_4 (List.mem_of_getElem? (i := 30) (by decide +kernel)) rfl
theorem kw_647 : (Cond.instanceMethod yX7_nth) ∈ TT := tt_4 (List.mem_of_getElem? (i := 32) (by decide +kernel)) rfl
theorem kw_648 : (Cond.selects RX7 yX7_nth yX7_nth) ∈ TT := tt_s (List.mem_of_getElem? (i := 32) (by decide +kernel)) rfl
set_option maxRecDepth 20000 in
theorem kw_649 : (Cond.code yX7_nth cX7_nth 7 (some .int)) ∈ TT := tt_4 (List.mem_of_getElem? (i := 33) rfl) rfl
theorem kw_650 : (Cond.methodLink RL 68 yX6_count) ∈ TT := tt_3 (List.mem_of_getElem? (i := 94) (by decide +kernel)) rfl
theorem kw_651 : (Cond.instanceMethod yX6_count) ∈ TT := tt_3 (List.mem_of_getElem? (i := 95) (by decide +kernel)) rfl
theorem kw_652 : (Cond.selects RX6 yX6_count yX6_count) ∈ TT := tt_3 (List.mem_of_getElem? (i := 96) (by decide +kernel)) rfl
set_option maxRecDepth 20000 in
theorem kw_653 : (Cond.code yX6_count cX6_count 1 (some .int)) ∈ TT := tt_3 (List.mem_of_getElem? (i := 97) rfl) rfl
theorem kw_654 : (Cond.methodLink RL 72 yX7_count) ∈ TT := tt_4 (List.mem_of_getElem? (i := 34) (by decide +kernel)) rfl
theorem kw_655 : (Cond.instanceMethod yX7_count) ∈ TT := tt_4 (List.mem_of_getElem? (i := 35) (by decide +kernel)) rfl
theorem kw_656 : (Cond.selects RX7 yX7_count yX7_count) ∈ TT := tt_4 (List.mem_of_getElem? (i := 36) (by decide +kernel)) rfl
set_option maxRecDepth 20000 in
theorem kw_657 : (Cond.code yX7_count cX7_count 1 (some .int)) ∈ TT := tt_4 (List.mem_of_getElem? (i := 37) rfl) rfl
theorem inU0 : ∀ w ∈ wsX00, w ∈ tables_1 ∧ goodWord w = true := by decide +kernel
theorem inT0 : ∀ w ∈ wsX00, w ∈ TT := fun w h => tt_t (inU0 w h).1 (inU0 w h).2
theorem inU1 : ∀ w ∈ wsX10, w ∈ tables_1 ∧ goodWord w = true := by decide +kernel
theorem inT1 : ∀ w ∈ wsX10, w ∈ TT := fun w h => tt_t (inU1 w h).1 (inU1 w h).2
theorem inU2 : ∀ w ∈ wsX20, w ∈ tables_1 ∧ goodWord w = true := by decide +kernel
theorem inT2 : ∀ w ∈ wsX20, w ∈ TT := fun w h => tt_t (inU2 w h).1 (inU2 w h).2
theorem inU3 : ∀ w ∈ wsX30, w ∈ tables_1 ∧ goodWord w = true := by decide +kernel
theorem inT3 : ∀ w ∈ wsX30, w ∈ TT := fun w h => tt_t (inU3 w h).1 (inU3 w h).2
theorem inU5 : ∀ w ∈ wsX50, w ∈ tables_1 ∧ goodWord w = true := by decide +kernel
theorem inT5 : ∀ w ∈ wsX50, w ∈ TT := fun w h => tt_t (inU5 w h).1 (inU5 w h).2
theorem inU6 : ∀ w ∈ wsX60, w ∈ tables_1 ∧ goodWord w = true := by decide +kernel
theorem inT6 : ∀ w ∈ wsX60, w ∈ TT := fun w h => tt_t (inU6 w h).1 (inU6 w h).2
theorem inU7 : ∀ w ∈ wsX70, w ∈ tables_1 ∧ goodWord w = true := by decide +kernel
theorem inT7 : ∀ w ∈ wsX70, w ∈ TT := fun w h => tt_t (inU7 w h).1 (inU7 w h).2
def ntW : Cond → Bool
  | .methodLinkNest .. => true
  | .declares .. => true
  | .castable .. => true
  | _ => false
def NT : List Cond := tables_1.filter ntW
theorem nt_1 {w : Cond} (h1 : w ∈ tables_1_1) (h2 : ntW w = true) : w ∈ NT := List.mem_filter.mpr ⟨List.mem_append_left _ h1, h2⟩
theorem nt_2 {w : Cond} (h1 : w ∈ tables_1_2) (h2 : ntW w = true) : w ∈ NT := List.mem_filter.mpr ⟨List.mem_append_right _ (List.mem_append_left _ h1), h2⟩
theorem nt_3 {w : Cond} (h1 : w ∈ tables_1_3) (h2 : ntW w = true) : w ∈ NT := List.mem_filter.mpr ⟨List.mem_append_right _ (List.mem_append_right _ (List.mem_append_left _ h1)), h2⟩
theorem nt_4 {w : Cond} (h1 : w ∈ tables_1_4) (h2 : ntW w = true) : w ∈ NT := List.mem_filter.mpr ⟨List.mem_append_right _ (List.mem_append_right _ (List.mem_append_right _ h1)), h2⟩
theorem kn_0 : (Cond.declares ⟨"SketchSpans$Sketch", "twin", "()LSketchSpans$Sketch;"⟩) ∈ NT := nt_1 (List.mem_of_getElem? (i := 197) (by decide +kernel)) rfl
theorem kn_1 : (Cond.declares yX4_copyTotals) ∈ NT := nt_1 (List.mem_of_getElem? (i := 206) (by decide +kernel)) rfl
theorem kn_2 : (Cond.methodLinkNest RX0 29 yX6_copyRow RX6) ∈ NT := nt_1 (List.mem_of_getElem? (i := 210) (by decide +kernel)) rfl
theorem kn_3 : (Cond.methodLinkNest RX1 38 yX6_copyRow RX6) ∈ NT := nt_1 (List.mem_of_getElem? (i := 221) (by decide +kernel)) rfl
theorem kn_4 : (Cond.methodLinkNest RX2 32 yX6_copyRow RX6) ∈ NT := nt_1 (List.mem_of_getElem? (i := 230) (by decide +kernel)) rfl
theorem kn_5 : (Cond.methodLinkNest RX3 38 yX6_copyRow RX6) ∈ NT := nt_1 (List.mem_of_getElem? (i := 239) (by decide +kernel)) rfl
theorem kn_6 : (Cond.methodLinkNest RX5 29 yX6_copyRow RX6) ∈ NT := nt_2 (List.mem_of_getElem? (i := 8) (by decide +kernel)) rfl
theorem kn_7 : (Cond.declares ⟨"SketchSpans$Sketch", "forget", "()V"⟩) ∈ NT := nt_2 (List.mem_of_getElem? (i := 14) (by decide +kernel)) rfl
theorem kn_8 : (Cond.methodLinkNest RX0 33 yX6_clearRow RX6) ∈ NT := nt_2 (List.mem_of_getElem? (i := 19) (by decide +kernel)) rfl
theorem kn_9 : (Cond.methodLinkNest RX3 42 yX6_clearRow RX6) ∈ NT := nt_2 (List.mem_of_getElem? (i := 31) (by decide +kernel)) rfl
theorem kn_10 : (Cond.methodLinkNest RX5 33 yX6_clearRow RX6) ∈ NT := nt_2 (List.mem_of_getElem? (i := 35) (by decide +kernel)) rfl
theorem kn_11 : (Cond.declares ⟨"SketchSpans$Sketch", "take", "(II)V"⟩) ∈ NT := nt_2 (List.mem_of_getElem? (i := 61) (by decide +kernel)) rfl
theorem kn_12 : (Cond.methodLinkNest RX0 37 yX6_placeOf RX6) ∈ NT := nt_2 (List.mem_of_getElem? (i := 66) (by decide +kernel)) rfl
theorem kn_13 : (Cond.methodLinkNest RX1 42 yX6_placeFor RX6) ∈ NT := nt_2 (List.mem_of_getElem? (i := 76) (by decide +kernel)) rfl
theorem kn_14 : (Cond.methodLinkNest RX1 46 yX6_standsAt RX6) ∈ NT := nt_2 (List.mem_of_getElem? (i := 79) (by decide +kernel)) rfl
theorem kn_15 : (Cond.methodLinkNest RX2 36 yX6_hashOf RX6) ∈ NT := nt_2 (List.mem_of_getElem? (i := 100) (by decide +kernel)) rfl
theorem kn_16 : (Cond.methodLinkNest RX2 44 yX6_placeFor RX6) ∈ NT := nt_2 (List.mem_of_getElem? (i := 105) (by decide +kernel)) rfl
theorem kn_17 : (Cond.methodLinkNest RX2 48 yX6_standsAt RX6) ∈ NT := nt_2 (List.mem_of_getElem? (i := 106) (by decide +kernel)) rfl
theorem kn_18 : (Cond.methodLinkNest RX5 51 yX6_placeOf RX6) ∈ NT := nt_2 (List.mem_of_getElem? (i := 134) (by decide +kernel)) rfl
theorem kn_19 : (Cond.declares ⟨"SketchSpans$Sketch", "join", "(LSketchSpans$Sketch;)V"⟩) ∈ NT := nt_2 (List.mem_of_getElem? (i := 149) (by decide +kernel)) rfl
theorem kn_20 : (Cond.declares ⟨"SketchSpans$Sketch", "howManyKept", "()I"⟩) ∈ NT := nt_3 (List.mem_of_getElem? (i := 51) (by decide +kernel)) rfl
theorem kn_21 : (Cond.methodLinkNest RX0 41 yX6_countNotZero RX6) ∈ NT := nt_3 (List.mem_of_getElem? (i := 56) (by decide +kernel)) rfl
theorem kn_22 : (Cond.methodLinkNest RX5 41 yX6_countNotZero RX6) ∈ NT := nt_3 (List.mem_of_getElem? (i := 71) (by decide +kernel)) rfl
theorem kn_23 : (Cond.declares ⟨"SketchSpans$Sketch", "keptAt", "(II)I"⟩) ∈ NT := nt_3 (List.mem_of_getElem? (i := 77) (by decide +kernel)) rfl
theorem kn_24 : (Cond.castable RX0 RX0) ∈ NT := nt_4 (List.mem_of_getElem? (i := 39) (by decide +kernel)) rfl
theorem kn_25 : (Cond.castable RX1 RX1) ∈ NT := nt_4 (List.mem_of_getElem? (i := 40) (by decide +kernel)) rfl
theorem kn_26 : (Cond.castable RX2 RX2) ∈ NT := nt_4 (List.mem_of_getElem? (i := 41) (by decide +kernel)) rfl
theorem kn_27 : (Cond.castable RX3 RX3) ∈ NT := nt_4 (List.mem_of_getElem? (i := 42) (by decide +kernel)) rfl
theorem kn_28 : (Cond.castable RX5 RX5) ∈ NT := nt_4 (List.mem_of_getElem? (i := 43) (by decide +kernel)) rfl
theorem kn_29 : (Cond.castable RX0 RX4) ∈ NT := nt_4 (List.mem_of_getElem? (i := 44) (by decide +kernel)) rfl
theorem kn_30 : (Cond.castable RX1 RX4) ∈ NT := nt_4 (List.mem_of_getElem? (i := 45) (by decide +kernel)) rfl
theorem kn_31 : (Cond.castable RX2 RX4) ∈ NT := nt_4 (List.mem_of_getElem? (i := 46) (by decide +kernel)) rfl
theorem kn_32 : (Cond.castable RX3 RX4) ∈ NT := nt_4 (List.mem_of_getElem? (i := 47) (by decide +kernel)) rfl
theorem kn_33 : (Cond.castable RX5 RX4) ∈ NT := nt_4 (List.mem_of_getElem? (i := 48) (by decide +kernel)) rfl
