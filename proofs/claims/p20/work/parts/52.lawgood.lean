/-! the words of the methods that are called there lie in lw_tbl -/
def lgd (w : Cond) : Prop := w ∈ lw_tbl ∧ goodWord w = true
theorem lg_c {w : Cond} {ws : List Cond} (h : lgd w) (t : GoodIn lw_tbl ws) : GoodIn lw_tbl (w :: ws) := List.forall_mem_cons.mpr ⟨⟨h.1, good_of_word h.2⟩, t⟩
theorem lg_n : GoodIn lw_tbl [] := fun _ h => absurd h List.not_mem_nil
theorem lg_wsX00 : GoodIn lw_tbl wsX00 := goodIn_sub wsX00_in9 (by decide +kernel)
theorem lg_wsX10 : GoodIn lw_tbl wsX10 := goodIn_sub wsX10_in9 (by decide +kernel)
theorem lg_wsX20 : GoodIn lw_tbl wsX20 := goodIn_sub wsX20_in9 (by decide +kernel)
theorem lg_wsX30 : GoodIn lw_tbl wsX30 := goodIn_sub wsX30_in9 (by decide +kernel)
theorem lg_v0 : GoodIn lw_tbl ((vx_atS RX2 48 "java/lang/IllegalArgumentException" ["java/lang/RuntimeException", "java/lang/Exception"]).filter goodWord) := goodIn_sub wsL_law_x1 (by decide +kernel)
theorem lg_v1 : GoodIn lw_tbl ((vx_atS RX2 59 "java/lang/IllegalStateException" ["java/lang/RuntimeException", "java/lang/Exception"]).filter goodWord) := goodIn_sub wsL_law_x2 (by decide +kernel)
theorem lg_v2 : GoodIn lw_tbl ((vx_atS RX2 77 "java/lang/IndexOutOfBoundsException" ["java/lang/RuntimeException", "java/lang/Exception"]).filter goodWord) := goodIn_sub wsL_law_x0 (by decide +kernel)
theorem lq_1_0 : lgd (Cond.classLink RL 22 RX2) := ⟨wsL_law0_r1_in _ (List.mem_of_getElem? (i := 0) rfl), by decide +kernel⟩
theorem lq_1_1 : lgd (Cond.instantiable RX2 6) := ⟨wsL_law0_r1_in _ (List.mem_of_getElem? (i := 1) rfl), by decide +kernel⟩
theorem lq_1_2 : lgd (Cond.initialized RX2) := ⟨wsL_law0_r1_in _ (List.mem_of_getElem? (i := 2) rfl), by decide +kernel⟩
theorem lq_1_3 : lgd (Cond.classLink RL 71 "[[I") := ⟨wsL_law0_r1_in _ (List.mem_of_getElem? (i := 3) rfl), by decide +kernel⟩
theorem lq_1_4 : lgd (Cond.arrayClass .int) := ⟨wsL_law0_r1_in _ (List.mem_of_getElem? (i := 4) rfl), by decide +kernel⟩
theorem lq_1_5 : lgd (Cond.fieldLink RL 33 "WedgeHarpsLaw$Sim" "wind" "[I") := ⟨wsL_law0_r1_in _ (List.mem_of_getElem? (i := 5) rfl), by decide +kernel⟩
theorem lq_1_6 : lgd (Cond.fieldLink RL 78 "WedgeHarpsLaw$Sim" "hour" "I") := ⟨wsL_law0_r1_in _ (List.mem_of_getElem? (i := 6) rfl), by decide +kernel⟩
theorem lq_1_7 : lgd (Cond.fieldLink RL 37 "WedgeHarpsLaw$Sim" "damp" "[I") := ⟨wsL_law0_r1_in _ (List.mem_of_getElem? (i := 7) rfl), by decide +kernel⟩
theorem lq_1_8 : lgd (Cond.methodLink RL 97 Lib.Math.min.name) := ⟨wsL_law0_r1_in _ (List.mem_of_getElem? (i := 8) rfl), by decide +kernel⟩
theorem lq_1_9 : lgd (Cond.static Lib.Math.min.name) := ⟨wsL_law0_r1_in _ (List.mem_of_getElem? (i := 9) rfl), by decide +kernel⟩
theorem lq_1_10 : lgd (Cond.initialized "java/lang/Math") := ⟨wsL_law0_r1_in _ (List.mem_of_getElem? (i := 10) rfl), by decide +kernel⟩
theorem lq_1_11 : lgd (Cond.code Lib.Math.min.name Lib.Math.min.code 2 (some .int)) := ⟨wsL_law0_r1_in _ (List.mem_of_getElem? (i := 11) rfl), by decide +kernel⟩
theorem lq_1_12 : lgd (Cond.methodLink RL 47 Lib.Math.max.name) := ⟨wsL_law0_r1_in _ (List.mem_of_getElem? (i := 12) rfl), by decide +kernel⟩
theorem lq_1_13 : lgd (Cond.static Lib.Math.max.name) := ⟨wsL_law0_r1_in _ (List.mem_of_getElem? (i := 13) rfl), by decide +kernel⟩
theorem lq_1_14 : lgd (Cond.code Lib.Math.max.name Lib.Math.max.code 2 (some .int)) := ⟨wsL_law0_r1_in _ (List.mem_of_getElem? (i := 14) rfl), by decide +kernel⟩
theorem lq_1_15 : lgd (Cond.fieldLink RL 44 "WedgeHarpsLaw$Sim" "chords" "[[I") := ⟨wsL_law0_r1_in _ (List.mem_of_getElem? (i := 15) rfl), by decide +kernel⟩
theorem lq_1_16 : lgd (Cond.methodLink RL 66 yX2_init) := ⟨wsL_law0_r1_in _ (List.mem_of_getElem? (i := 16) rfl), by decide +kernel⟩
theorem lq_1_17 : lgd (Cond.instanceMethod yX2_init) := ⟨wsL_law0_r1_in _ (List.mem_of_getElem? (i := 17) rfl), by decide +kernel⟩
theorem lq_1_18 : lgd (Cond.code yX2_init cX2_init 2 none) := ⟨wsL_law0_r1_in _ (List.mem_of_getElem? (i := 18) rfl), by decide +kernel⟩
theorem lq_1_19 : lgd (Cond.methodLink RX2 1 objectInit) := ⟨wsL_law0_r1_in _ (List.mem_of_getElem? (i := 19) rfl), by decide +kernel⟩
theorem lq_1_20 : lgd (Cond.instanceMethod objectInit) := ⟨wsL_law0_r1_in _ (List.mem_of_getElem? (i := 20) rfl), by decide +kernel⟩
theorem lq_1_21 : lgd (Cond.code objectInit ⟨#[0xb1]⟩ 1 none) := ⟨wsL_law0_r1_in _ (List.mem_of_getElem? (i := 21) rfl), by decide +kernel⟩
theorem lq_1_22 : lgd (Cond.classLink RX2 7 RX1) := ⟨wsL_law0_r1_in _ (List.mem_of_getElem? (i := 22) rfl), by decide +kernel⟩
theorem lq_1_23 : lgd (Cond.instantiable RX1 8) := ⟨wsL_law0_r1_in _ (List.mem_of_getElem? (i := 23) rfl), by decide +kernel⟩
theorem lq_2_0 : lgd (Cond.initialized RX1) := ⟨wsL_law0_r2_in _ (List.mem_of_getElem? (i := 0) rfl), by decide +kernel⟩
theorem lq_2_1 : lgd (Cond.fieldLink RX2 10 "WedgeHarps" "now" "LWedgeHarps$Harp;") := ⟨wsL_law0_r2_in _ (List.mem_of_getElem? (i := 1) rfl), by decide +kernel⟩
theorem lq_2_2 : lgd (Cond.fieldLink RX2 16 "WedgeHarps" "later" "LWedgeHarps$Harp;") := ⟨wsL_law0_r2_in _ (List.mem_of_getElem? (i := 2) rfl), by decide +kernel⟩
theorem lq_2_3 : lgd (Cond.fieldLink RX2 19 "WedgeHarps" "windTable" "[I") := ⟨wsL_law0_r2_in _ (List.mem_of_getElem? (i := 3) rfl), by decide +kernel⟩
theorem lq_2_4 : lgd (Cond.fieldLink RX2 23 "WedgeHarps" "dampTable" "[I") := ⟨wsL_law0_r2_in _ (List.mem_of_getElem? (i := 4) rfl), by decide +kernel⟩
theorem lq_2_5 : lgd (Cond.classLink RX2 26 RX0) := ⟨wsL_law0_r2_in _ (List.mem_of_getElem? (i := 5) rfl), by decide +kernel⟩
theorem lq_2_6 : lgd (Cond.fieldLink RX2 28 "WedgeHarps" "chords" "[LWedgeHarps$Chord;") := ⟨wsL_law0_r2_in _ (List.mem_of_getElem? (i := 6) rfl), by decide +kernel⟩
theorem lq_2_7 : lgd (Cond.instantiable RX0 3) := ⟨wsL_law0_r2_in _ (List.mem_of_getElem? (i := 7) rfl), by decide +kernel⟩
theorem lq_2_8 : lgd (Cond.initialized RX0) := ⟨wsL_law0_r2_in _ (List.mem_of_getElem? (i := 8) rfl), by decide +kernel⟩
theorem lq_2_9 : lgd (Cond.fieldLink RX2 33 "WedgeHarps" "told" "I") := ⟨wsL_law0_r2_in _ (List.mem_of_getElem? (i := 9) rfl), by decide +kernel⟩
theorem lq_2_10 : lgd (Cond.methodLink RX2 9 yX1_init) := ⟨wsL_law0_r2_in _ (List.mem_of_getElem? (i := 10) rfl), by decide +kernel⟩
theorem lq_2_11 : lgd (Cond.instanceMethod yX1_init) := ⟨wsL_law0_r2_in _ (List.mem_of_getElem? (i := 11) rfl), by decide +kernel⟩
theorem lq_2_12 : lgd (Cond.code yX1_init cX1_init 2 none) := ⟨wsL_law0_r2_in _ (List.mem_of_getElem? (i := 12) rfl), by decide +kernel⟩
theorem lq_2_13 : lgd (Cond.methodLink RX1 3 objectInit) := ⟨wsL_law0_r2_in _ (List.mem_of_getElem? (i := 13) rfl), by decide +kernel⟩
theorem lq_2_14 : lgd (Cond.fieldLink RX1 9 "WedgeHarps$Harp" "base" "[I") := ⟨wsL_law0_r2_in _ (List.mem_of_getElem? (i := 14) rfl), by decide +kernel⟩
theorem lq_2_15 : lgd (Cond.fieldLink RX1 15 "WedgeHarps$Harp" "wedge" "[I") := ⟨wsL_law0_r2_in _ (List.mem_of_getElem? (i := 15) rfl), by decide +kernel⟩
theorem lq_2_16 : lgd (Cond.fieldLink RX1 18 "WedgeHarps$Harp" "drift" "[I") := ⟨wsL_law0_r2_in _ (List.mem_of_getElem? (i := 16) rfl), by decide +kernel⟩
theorem lq_2_17 : lgd (Cond.fieldLink RX1 21 "WedgeHarps$Harp" "strain" "[I") := ⟨wsL_law0_r2_in _ (List.mem_of_getElem? (i := 17) rfl), by decide +kernel⟩
theorem lq_2_18 : lgd (Cond.fieldLink RX1 24 "WedgeHarps$Harp" "breaks" "[I") := ⟨wsL_law0_r2_in _ (List.mem_of_getElem? (i := 18) rfl), by decide +kernel⟩
theorem lq_2_19 : lgd (Cond.arrayClass .boolean) := ⟨wsL_law0_r2_in _ (List.mem_of_getElem? (i := 19) rfl), by decide +kernel⟩
theorem lq_2_20 : lgd (Cond.fieldLink RX1 27 "WedgeHarps$Harp" "whole" "[Z") := ⟨wsL_law0_r2_in _ (List.mem_of_getElem? (i := 20) rfl), by decide +kernel⟩
theorem lq_2_21 : lgd (Cond.fieldLink RX1 31 "WedgeHarps$Harp" "swelling" "I") := ⟨wsL_law0_r2_in _ (List.mem_of_getElem? (i := 21) rfl), by decide +kernel⟩
theorem lq_2_22 : lgd (Cond.fieldLink RX1 35 "WedgeHarps$Harp" "hour" "I") := ⟨wsL_law0_r2_in _ (List.mem_of_getElem? (i := 22) rfl), by decide +kernel⟩
theorem lq_2_23 : lgd (Cond.methodLink RX2 32 yX0_init) := ⟨wsL_law0_r2_in _ (List.mem_of_getElem? (i := 23) rfl), by decide +kernel⟩
theorem lq_3_0 : lgd (Cond.instanceMethod yX0_init) := ⟨wsL_law0_r3_in _ (List.mem_of_getElem? (i := 0) rfl), by decide +kernel⟩
theorem lq_3_1 : lgd (Cond.code yX0_init cX0_init 1 none) := ⟨wsL_law0_r3_in _ (List.mem_of_getElem? (i := 1) rfl), by decide +kernel⟩
theorem lq_3_2 : lgd (Cond.methodLink RX0 3 objectInit) := ⟨wsL_law0_r3_in _ (List.mem_of_getElem? (i := 2) rfl), by decide +kernel⟩
theorem lq_3_3 : lgd (Cond.fieldLink RX0 9 "WedgeHarps$Chord" "tones" "[I") := ⟨wsL_law0_r3_in _ (List.mem_of_getElem? (i := 3) rfl), by decide +kernel⟩
theorem lq_3_4 : lgd (Cond.fieldLink RX0 15 "WedgeHarps$Chord" "lowest" "I") := ⟨wsL_law0_r3_in _ (List.mem_of_getElem? (i := 4) rfl), by decide +kernel⟩
theorem lq_3_5 : lgd (Cond.fieldLink RX0 19 "WedgeHarps$Chord" "size" "I") := ⟨wsL_law0_r3_in _ (List.mem_of_getElem? (i := 5) rfl), by decide +kernel⟩
theorem lq_3_6 : lgd (Cond.methodLink RL 67 yL_build) := ⟨wsL_law0_r3_in _ (List.mem_of_getElem? (i := 6) rfl), by decide +kernel⟩
theorem lq_3_7 : lgd (Cond.static yL_build) := ⟨wsL_law0_r3_in _ (List.mem_of_getElem? (i := 7) rfl), by decide +kernel⟩
theorem lq_3_8 : lgd (Cond.initialized RL) := ⟨wsL_law0_r3_in _ (List.mem_of_getElem? (i := 8) rfl), by decide +kernel⟩
theorem lq_3_9 : lgd (Cond.code yL_build cL_build 6 (some (.object "WedgeHarpsLaw$Sim"))) := ⟨wsL_law0_r3_in _ (List.mem_of_getElem? (i := 9) rfl), by decide +kernel⟩
theorem lq_3_10 : lgd (Cond.classLink RL 16 RX3) := ⟨wsL_law0_r3_in _ (List.mem_of_getElem? (i := 10) rfl), by decide +kernel⟩
theorem lq_3_11 : lgd (Cond.instantiable RX3 6) := ⟨wsL_law0_r3_in _ (List.mem_of_getElem? (i := 11) rfl), by decide +kernel⟩
theorem lq_3_12 : lgd (Cond.initialized RX3) := ⟨wsL_law0_r3_in _ (List.mem_of_getElem? (i := 12) rfl), by decide +kernel⟩
theorem lq_3_13 : lgd (Cond.fieldLink RL 15 "WedgeHarpsLaw$Sim" "strings" "[[I") := ⟨wsL_law0_r3_in _ (List.mem_of_getElem? (i := 13) rfl), by decide +kernel⟩
theorem lq_3_14 : lgd (Cond.methodLink RL 57 yX3_init) := ⟨wsL_law0_r3_in _ (List.mem_of_getElem? (i := 14) rfl), by decide +kernel⟩
theorem lq_3_15 : lgd (Cond.instanceMethod yX3_init) := ⟨wsL_law0_r3_in _ (List.mem_of_getElem? (i := 15) rfl), by decide +kernel⟩
theorem lq_3_16 : lgd (Cond.code yX3_init cX3_init 2 none) := ⟨wsL_law0_r3_in _ (List.mem_of_getElem? (i := 16) rfl), by decide +kernel⟩
theorem lq_3_17 : lgd (Cond.methodLink RX3 1 objectInit) := ⟨wsL_law0_r3_in _ (List.mem_of_getElem? (i := 17) rfl), by decide +kernel⟩
theorem lq_3_18 : lgd (Cond.classLink RX3 7 "[I") := ⟨wsL_law0_r3_in _ (List.mem_of_getElem? (i := 18) rfl), by decide +kernel⟩
theorem lq_3_19 : lgd (Cond.fieldLink RX3 9 "WedgeHarpsLaw$Sim" "strings" "[[I") := ⟨wsL_law0_r3_in _ (List.mem_of_getElem? (i := 19) rfl), by decide +kernel⟩
theorem lq_3_20 : lgd (Cond.fieldLink RX3 15 "WedgeHarpsLaw$Sim" "chords" "[[I") := ⟨wsL_law0_r3_in _ (List.mem_of_getElem? (i := 20) rfl), by decide +kernel⟩
theorem lq_3_21 : lgd (Cond.fieldLink RX3 18 "WedgeHarpsLaw$Sim" "wind" "[I") := ⟨wsL_law0_r3_in _ (List.mem_of_getElem? (i := 21) rfl), by decide +kernel⟩
theorem lq_3_22 : lgd (Cond.fieldLink RX3 21 "WedgeHarpsLaw$Sim" "damp" "[I") := ⟨wsL_law0_r3_in _ (List.mem_of_getElem? (i := 22) rfl), by decide +kernel⟩
theorem lq_3_23 : lgd (Cond.methodLink RL 58 yL_cell) := ⟨wsL_law0_r3_in _ (List.mem_of_getElem? (i := 23) rfl), by decide +kernel⟩
theorem lq_4_0 : lgd (Cond.static yL_cell) := ⟨wsL_law0_r4_in _ (List.mem_of_getElem? (i := 0) rfl), by decide +kernel⟩
theorem lq_4_1 : lgd (Cond.code yL_cell cL_cell 2 (some .int)) := ⟨wsL_law0_r4_in _ (List.mem_of_getElem? (i := 1) rfl), by decide +kernel⟩
theorem lq_4_2 : lgd (Cond.constant RL 8 (790386105)) := ⟨wsL_law0_r4_in _ (List.mem_of_getElem? (i := 2) rfl), by decide +kernel⟩
theorem lq_4_3 : lgd (Cond.methodLink RL 9 yL_below) := ⟨wsL_law0_r4_in _ (List.mem_of_getElem? (i := 3) rfl), by decide +kernel⟩
theorem lq_4_4 : lgd (Cond.static yL_below) := ⟨wsL_law0_r4_in _ (List.mem_of_getElem? (i := 4) rfl), by decide +kernel⟩
theorem lq_4_5 : lgd (Cond.code yL_below cL_below 2 (some .int)) := ⟨wsL_law0_r4_in _ (List.mem_of_getElem? (i := 5) rfl), by decide +kernel⟩
theorem lq_4_6 : lgd (Cond.constant RL 7 (2147483647)) := ⟨wsL_law0_r4_in _ (List.mem_of_getElem? (i := 6) rfl), by decide +kernel⟩
theorem lq_4_7 : lgd (Cond.methodLink RL 40 yX2_setWeather) := ⟨wsL_law0_r4_in _ (List.mem_of_getElem? (i := 7) rfl), by decide +kernel⟩
theorem lq_4_8 : lgd (Cond.instanceMethod yX2_setWeather) := ⟨wsL_law0_r4_in _ (List.mem_of_getElem? (i := 8) rfl), by decide +kernel⟩
theorem lq_4_9 : lgd (Cond.selects RX2 yX2_setWeather yX2_setWeather) := ⟨wsL_law0_r4_in _ (List.mem_of_getElem? (i := 9) rfl), by decide +kernel⟩
theorem lq_4_10 : lgd (Cond.code yX2_setWeather cX2_setWeather 5 (some .int)) := ⟨wsL_law0_r4_in _ (List.mem_of_getElem? (i := 10) rfl), by decide +kernel⟩
theorem lq_4_11 : lgd (Cond.classLink RX2 73 "java/lang/IndexOutOfBoundsException") := ⟨wsL_law0_r4_in _ (List.mem_of_getElem? (i := 11) rfl), by decide +kernel⟩
theorem lq_4_12 : lgd (Cond.initialized "java/lang/IndexOutOfBoundsException") := ⟨wsL_law0_r4_in _ (List.mem_of_getElem? (i := 12) rfl), by decide +kernel⟩
theorem lq_4_13 : lgd (Cond.classLink RX2 44 "java/lang/IllegalArgumentException") := ⟨wsL_law0_r4_in _ (List.mem_of_getElem? (i := 13) rfl), by decide +kernel⟩
theorem lq_4_14 : lgd (Cond.initialized "java/lang/IllegalArgumentException") := ⟨wsL_law0_r4_in _ (List.mem_of_getElem? (i := 14) rfl), by decide +kernel⟩
theorem lq_4_15 : lgd (Cond.methodLink RX2 82 yX2_weatherAt) := ⟨wsL_law0_r4_in _ (List.mem_of_getElem? (i := 15) rfl), by decide +kernel⟩
theorem lq_4_16 : lgd (Cond.instanceMethod yX2_weatherAt) := ⟨wsL_law0_r4_in _ (List.mem_of_getElem? (i := 16) rfl), by decide +kernel⟩
theorem lq_4_17 : lgd (Cond.selects RX2 yX2_weatherAt yX2_weatherAt) := ⟨wsL_law0_r4_in _ (List.mem_of_getElem? (i := 17) rfl), by decide +kernel⟩
theorem lq_4_18 : lgd (Cond.code yX2_weatherAt cX2_weatherAt 2 (some .int)) := ⟨wsL_law0_r4_in _ (List.mem_of_getElem? (i := 18) rfl), by decide +kernel⟩
theorem lq_4_19 : lgd (Cond.methodLink RL 30 yX2_draw) := ⟨wsL_law0_r4_in _ (List.mem_of_getElem? (i := 19) rfl), by decide +kernel⟩
theorem lq_4_20 : lgd (Cond.instanceMethod yX2_draw) := ⟨wsL_law0_r4_in _ (List.mem_of_getElem? (i := 20) rfl), by decide +kernel⟩
theorem lq_4_21 : lgd (Cond.selects RX2 yX2_draw yX2_draw) := ⟨wsL_law0_r4_in _ (List.mem_of_getElem? (i := 21) rfl), by decide +kernel⟩
theorem lq_4_22 : lgd (Cond.code yX2_draw cX2_draw 3 (some .int)) := ⟨wsL_law0_r4_in _ (List.mem_of_getElem? (i := 22) rfl), by decide +kernel⟩
theorem lq_4_23 : lgd (Cond.methodLink RX2 37 yX2_checkString) := ⟨wsL_law0_r4_in _ (List.mem_of_getElem? (i := 23) rfl), by decide +kernel⟩
theorem lq_5_0 : lgd (Cond.static yX2_checkString) := ⟨wsL_law0_r5_in _ (List.mem_of_getElem? (i := 0) rfl), by decide +kernel⟩
theorem lq_5_1 : lgd (Cond.code yX2_checkString cX2_checkString 1 none) := ⟨wsL_law0_r5_in _ (List.mem_of_getElem? (i := 1) rfl), by decide +kernel⟩
theorem lq_5_2 : lgd (Cond.methodLink RX2 69 yX1_renew) := ⟨wsL_law0_r5_in _ (List.mem_of_getElem? (i := 2) rfl), by decide +kernel⟩
theorem lq_5_3 : lgd (Cond.instanceMethod yX1_renew) := ⟨wsL_law0_r5_in _ (List.mem_of_getElem? (i := 3) rfl), by decide +kernel⟩
theorem lq_5_4 : lgd (Cond.selects RX1 yX1_renew yX1_renew) := ⟨wsL_law0_r5_in _ (List.mem_of_getElem? (i := 4) rfl), by decide +kernel⟩
theorem lq_5_5 : lgd (Cond.code yX1_renew cX1_renew 3 none) := ⟨wsL_law0_r5_in _ (List.mem_of_getElem? (i := 5) rfl), by decide +kernel⟩
theorem lq_5_6 : lgd (Cond.methodLink RX2 63 yX1_toneOf) := ⟨wsL_law0_r5_in _ (List.mem_of_getElem? (i := 6) rfl), by decide +kernel⟩
theorem lq_5_7 : lgd (Cond.instanceMethod yX1_toneOf) := ⟨wsL_law0_r5_in _ (List.mem_of_getElem? (i := 7) rfl), by decide +kernel⟩
theorem lq_5_8 : lgd (Cond.selects RX1 yX1_toneOf yX1_toneOf) := ⟨wsL_law0_r5_in _ (List.mem_of_getElem? (i := 8) rfl), by decide +kernel⟩
theorem lq_5_9 : lgd (Cond.code yX1_toneOf cX1_toneOf 3 (some .int)) := ⟨wsL_law0_r5_in _ (List.mem_of_getElem? (i := 9) rfl), by decide +kernel⟩
theorem lq_5_10 : lgd (Cond.methodLink RL 26 yX3_tone) := ⟨wsL_law0_r5_in _ (List.mem_of_getElem? (i := 10) rfl), by decide +kernel⟩
theorem lq_5_11 : lgd (Cond.instanceMethod yX3_tone) := ⟨wsL_law0_r5_in _ (List.mem_of_getElem? (i := 11) rfl), by decide +kernel⟩
theorem lq_5_12 : lgd (Cond.selects RX3 yX3_tone yX3_tone) := ⟨wsL_law0_r5_in _ (List.mem_of_getElem? (i := 12) rfl), by decide +kernel⟩
theorem lq_5_13 : lgd (Cond.code yX3_tone cX3_tone 4 (some .int)) := ⟨wsL_law0_r5_in _ (List.mem_of_getElem? (i := 13) rfl), by decide +kernel⟩
theorem lq_5_14 : lgd (Cond.fieldLink RX3 29 "WedgeHarpsLaw$Sim" "swelling" "I") := ⟨wsL_law0_r5_in _ (List.mem_of_getElem? (i := 14) rfl), by decide +kernel⟩
theorem lq_5_15 : lgd (Cond.methodLink RL 21 yX2_push) := ⟨wsL_law0_r5_in _ (List.mem_of_getElem? (i := 15) rfl), by decide +kernel⟩
theorem lq_5_16 : lgd (Cond.instanceMethod yX2_push) := ⟨wsL_law0_r5_in _ (List.mem_of_getElem? (i := 16) rfl), by decide +kernel⟩
theorem lq_5_17 : lgd (Cond.selects RX2 yX2_push yX2_push) := ⟨wsL_law0_r5_in _ (List.mem_of_getElem? (i := 17) rfl), by decide +kernel⟩
theorem lq_5_18 : lgd (Cond.code yX2_push cX2_push 3 (some .int)) := ⟨wsL_law0_r5_in _ (List.mem_of_getElem? (i := 18) rfl), by decide +kernel⟩
theorem lq_5_19 : lgd (Cond.classLink RX2 55 "java/lang/IllegalStateException") := ⟨wsL_law0_r5_in _ (List.mem_of_getElem? (i := 19) rfl), by decide +kernel⟩
theorem lq_5_20 : lgd (Cond.initialized "java/lang/IllegalStateException") := ⟨wsL_law0_r5_in _ (List.mem_of_getElem? (i := 20) rfl), by decide +kernel⟩
theorem lq_5_21 : lgd (Cond.fieldLink RX2 60 "WedgeHarps$Harp" "wedge" "[I") := ⟨wsL_law0_r5_in _ (List.mem_of_getElem? (i := 21) rfl), by decide +kernel⟩
theorem lq_5_22 : lgd (Cond.methodLink RX2 41 yX2_checkWedgeSteps) := ⟨wsL_law0_r5_in _ (List.mem_of_getElem? (i := 22) rfl), by decide +kernel⟩
theorem lq_5_23 : lgd (Cond.static yX2_checkWedgeSteps) := ⟨wsL_law0_r5_in _ (List.mem_of_getElem? (i := 23) rfl), by decide +kernel⟩
theorem lq_6_0 : lgd (Cond.code yX2_checkWedgeSteps cX2_checkWedgeSteps 1 none) := ⟨wsL_law0_r6_in _ (List.mem_of_getElem? (i := 0) rfl), by decide +kernel⟩
theorem lq_6_1 : lgd (Cond.methodLink RX2 51 yX1_takesPush) := ⟨wsL_law0_r6_in _ (List.mem_of_getElem? (i := 1) rfl), by decide +kernel⟩
theorem lq_6_2 : lgd (Cond.instanceMethod yX1_takesPush) := ⟨wsL_law0_r6_in _ (List.mem_of_getElem? (i := 2) rfl), by decide +kernel⟩
theorem lq_6_3 : lgd (Cond.selects RX1 yX1_takesPush yX1_takesPush) := ⟨wsL_law0_r6_in _ (List.mem_of_getElem? (i := 3) rfl), by decide +kernel⟩
theorem lq_6_4 : lgd (Cond.code yX1_takesPush cX1_takesPush 4 (some .boolean)) := ⟨wsL_law0_r6_in _ (List.mem_of_getElem? (i := 4) rfl), by decide +kernel⟩
theorem lq_6_5 : lgd (Cond.methodLink RL 62 yL_act) := ⟨wsL_law0_r6_in _ (List.mem_of_getElem? (i := 5) rfl), by decide +kernel⟩
theorem lq_6_6 : lgd (Cond.static yL_act) := ⟨wsL_law0_r6_in _ (List.mem_of_getElem? (i := 6) rfl), by decide +kernel⟩
theorem lq_6_7 : lgd (Cond.code yL_act cL_act 12 (some .boolean)) := ⟨wsL_law0_r6_in _ (List.mem_of_getElem? (i := 7) rfl), by decide +kernel⟩
theorem lq_6_8 : lgd (Cond.classLink RL 52 "[I") := ⟨wsL_law0_r6_in _ (List.mem_of_getElem? (i := 8) rfl), by decide +kernel⟩
theorem lq_6_9 : lgd (Cond.methodLink RL 53 yX2_chord) := ⟨wsL_law0_r6_in _ (List.mem_of_getElem? (i := 9) rfl), by decide +kernel⟩
theorem lq_6_10 : lgd (Cond.instanceMethod yX2_chord) := ⟨wsL_law0_r6_in _ (List.mem_of_getElem? (i := 10) rfl), by decide +kernel⟩
theorem lq_6_11 : lgd (Cond.selects RX2 yX2_chord yX2_chord) := ⟨wsL_law0_r6_in _ (List.mem_of_getElem? (i := 11) rfl), by decide +kernel⟩
theorem lq_6_12 : lgd (Cond.code yX2_chord cX2_chord 8 (some .int)) := ⟨wsL_law0_r6_in _ (List.mem_of_getElem? (i := 12) rfl), by decide +kernel⟩
theorem lq_6_13 : lgd (Cond.methodLink RX2 100 yX2_checkTone) := ⟨wsL_law0_r6_in _ (List.mem_of_getElem? (i := 13) rfl), by decide +kernel⟩
theorem lq_6_14 : lgd (Cond.static yX2_checkTone) := ⟨wsL_law0_r6_in _ (List.mem_of_getElem? (i := 14) rfl), by decide +kernel⟩
theorem lq_6_15 : lgd (Cond.code yX2_checkTone cX2_checkTone 2 none) := ⟨wsL_law0_r6_in _ (List.mem_of_getElem? (i := 15) rfl), by decide +kernel⟩
theorem lq_6_16 : lgd (Cond.methodLink RX2 109 yX0_place) := ⟨wsL_law0_r6_in _ (List.mem_of_getElem? (i := 16) rfl), by decide +kernel⟩
theorem lq_6_17 : lgd (Cond.instanceMethod yX0_place) := ⟨wsL_law0_r6_in _ (List.mem_of_getElem? (i := 17) rfl), by decide +kernel⟩
theorem lq_6_18 : lgd (Cond.selects RX0 yX0_place yX0_place) := ⟨wsL_law0_r6_in _ (List.mem_of_getElem? (i := 18) rfl), by decide +kernel⟩
theorem lq_6_19 : lgd (Cond.code yX0_place cX0_place 3 none) := ⟨wsL_law0_r6_in _ (List.mem_of_getElem? (i := 19) rfl), by decide +kernel⟩
theorem lq_6_20 : lgd (Cond.methodLink RX2 112 yX0_tune) := ⟨wsL_law0_r6_in _ (List.mem_of_getElem? (i := 20) rfl), by decide +kernel⟩
theorem lq_6_21 : lgd (Cond.instanceMethod yX0_tune) := ⟨wsL_law0_r6_in _ (List.mem_of_getElem? (i := 21) rfl), by decide +kernel⟩
theorem lq_6_22 : lgd (Cond.selects RX0 yX0_tune yX0_tune) := ⟨wsL_law0_r6_in _ (List.mem_of_getElem? (i := 22) rfl), by decide +kernel⟩
theorem lq_6_23 : lgd (Cond.code yX0_tune cX0_tune 5 none) := ⟨wsL_law0_r6_in _ (List.mem_of_getElem? (i := 23) rfl), by decide +kernel⟩
theorem lq_7_0 : lgd (Cond.methodLink RL 72 yX2_string) := ⟨wsL_law0_r7_in _ (List.mem_of_getElem? (i := 0) rfl), by decide +kernel⟩
theorem lq_7_1 : lgd (Cond.instanceMethod yX2_string) := ⟨wsL_law0_r7_in _ (List.mem_of_getElem? (i := 1) rfl), by decide +kernel⟩
theorem lq_7_2 : lgd (Cond.selects RX2 yX2_string yX2_string) := ⟨wsL_law0_r7_in _ (List.mem_of_getElem? (i := 2) rfl), by decide +kernel⟩
theorem lq_7_3 : lgd (Cond.code yX2_string cX2_string 3 (some .int)) := ⟨wsL_law0_r7_in _ (List.mem_of_getElem? (i := 3) rfl), by decide +kernel⟩
theorem lq_7_4 : lgd (Cond.methodLink RX2 87 yX1_factOf) := ⟨wsL_law0_r7_in _ (List.mem_of_getElem? (i := 4) rfl), by decide +kernel⟩
theorem lq_7_5 : lgd (Cond.instanceMethod yX1_factOf) := ⟨wsL_law0_r7_in _ (List.mem_of_getElem? (i := 5) rfl), by decide +kernel⟩
theorem lq_7_6 : lgd (Cond.selects RX1 yX1_factOf yX1_factOf) := ⟨wsL_law0_r7_in _ (List.mem_of_getElem? (i := 6) rfl), by decide +kernel⟩
theorem lq_7_7 : lgd (Cond.code yX1_factOf cX1_factOf 3 (some .int)) := ⟨wsL_law0_r7_in _ (List.mem_of_getElem? (i := 7) rfl), by decide +kernel⟩
theorem lq_7_8 : lgd (Cond.methodLink RX1 38 yX1_toneOf) := ⟨wsL_law0_r7_in _ (List.mem_of_getElem? (i := 8) rfl), by decide +kernel⟩
theorem lq_7_9 : lgd (Cond.methodLink RL 75 yX2_foresee) := ⟨wsL_law0_r7_in _ (List.mem_of_getElem? (i := 9) rfl), by decide +kernel⟩
theorem lq_7_10 : lgd (Cond.instanceMethod yX2_foresee) := ⟨wsL_law0_r7_in _ (List.mem_of_getElem? (i := 10) rfl), by decide +kernel⟩
theorem lq_7_11 : lgd (Cond.selects RX2 yX2_foresee yX2_foresee) := ⟨wsL_law0_r7_in _ (List.mem_of_getElem? (i := 11) rfl), by decide +kernel⟩
theorem lq_7_12 : lgd (Cond.code yX2_foresee cX2_foresee 4 (some .int)) := ⟨wsL_law0_r7_in _ (List.mem_of_getElem? (i := 12) rfl), by decide +kernel⟩
theorem lq_7_13 : lgd (Cond.methodLink RX2 131 yX2_checkHours) := ⟨wsL_law0_r7_in _ (List.mem_of_getElem? (i := 13) rfl), by decide +kernel⟩
theorem lq_7_14 : lgd (Cond.static yX2_checkHours) := ⟨wsL_law0_r7_in _ (List.mem_of_getElem? (i := 14) rfl), by decide +kernel⟩
theorem lq_7_15 : lgd (Cond.code yX2_checkHours cX2_checkHours 1 none) := ⟨wsL_law0_r7_in _ (List.mem_of_getElem? (i := 15) rfl), by decide +kernel⟩
theorem lq_7_16 : lgd (Cond.methodLink RX2 146 yX1_copy) := ⟨wsL_law0_r7_in _ (List.mem_of_getElem? (i := 16) rfl), by decide +kernel⟩
theorem lq_7_17 : lgd (Cond.instanceMethod yX1_copy) := ⟨wsL_law0_r7_in _ (List.mem_of_getElem? (i := 17) rfl), by decide +kernel⟩
theorem lq_7_18 : lgd (Cond.selects RX1 yX1_copy yX1_copy) := ⟨wsL_law0_r7_in _ (List.mem_of_getElem? (i := 18) rfl), by decide +kernel⟩
theorem lq_7_19 : lgd (Cond.code yX1_copy cX1_copy 3 none) := ⟨wsL_law0_r7_in _ (List.mem_of_getElem? (i := 19) rfl), by decide +kernel⟩
theorem lq_7_20 : lgd (Cond.methodLink RX2 134 yX2_letHourGo) := ⟨wsL_law0_r7_in _ (List.mem_of_getElem? (i := 20) rfl), by decide +kernel⟩
theorem lq_7_21 : lgd (Cond.instanceMethod yX2_letHourGo) := ⟨wsL_law0_r7_in _ (List.mem_of_getElem? (i := 21) rfl), by decide +kernel⟩
theorem lq_7_22 : lgd (Cond.selects RX2 yX2_letHourGo yX2_letHourGo) := ⟨wsL_law0_r7_in _ (List.mem_of_getElem? (i := 22) rfl), by decide +kernel⟩
theorem lq_7_23 : lgd (Cond.code yX2_letHourGo cX2_letHourGo 5 (some .int)) := ⟨wsL_law0_r7_in _ (List.mem_of_getElem? (i := 23) rfl), by decide +kernel⟩
theorem lq_8_0 : lgd (Cond.methodLink RX2 206 yX1_hourOfTable) := ⟨wsL_law0_r8_in _ (List.mem_of_getElem? (i := 0) rfl), by decide +kernel⟩
theorem lq_8_1 : lgd (Cond.instanceMethod yX1_hourOfTable) := ⟨wsL_law0_r8_in _ (List.mem_of_getElem? (i := 1) rfl), by decide +kernel⟩
theorem lq_8_2 : lgd (Cond.selects RX1 yX1_hourOfTable yX1_hourOfTable) := ⟨wsL_law0_r8_in _ (List.mem_of_getElem? (i := 2) rfl), by decide +kernel⟩
theorem lq_8_3 : lgd (Cond.code yX1_hourOfTable cX1_hourOfTable 1 (some .int)) := ⟨wsL_law0_r8_in _ (List.mem_of_getElem? (i := 3) rfl), by decide +kernel⟩
theorem lq_8_4 : lgd (Cond.methodLink RX1 62 yJ9_floorMod_7cf53) := ⟨wsL_law0_r8_in _ (List.mem_of_getElem? (i := 4) rfl), by decide +kernel⟩
theorem lq_8_5 : lgd (Cond.static yJ9_floorMod_7cf53) := ⟨wsL_law0_r8_in _ (List.mem_of_getElem? (i := 5) rfl), by decide +kernel⟩
theorem lq_8_6 : lgd (Cond.initialized RJ9) := ⟨wsL_law0_r8_in _ (List.mem_of_getElem? (i := 6) rfl), by decide +kernel⟩
theorem lq_8_7 : lgd (Cond.code yJ9_floorMod_7cf53 cJ9_floorMod_7cf53 3 (some .int)) := ⟨wsL_law0_r8_in _ (List.mem_of_getElem? (i := 7) rfl), by decide +kernel⟩
theorem lq_8_8 : lgd (Cond.methodLink RX2 209 yX1_spendHour) := ⟨wsL_law0_r8_in _ (List.mem_of_getElem? (i := 8) rfl), by decide +kernel⟩
theorem lq_8_9 : lgd (Cond.instanceMethod yX1_spendHour) := ⟨wsL_law0_r8_in _ (List.mem_of_getElem? (i := 9) rfl), by decide +kernel⟩
theorem lq_8_10 : lgd (Cond.selects RX1 yX1_spendHour yX1_spendHour) := ⟨wsL_law0_r8_in _ (List.mem_of_getElem? (i := 10) rfl), by decide +kernel⟩
theorem lq_8_11 : lgd (Cond.code yX1_spendHour cX1_spendHour 7 (some .int)) := ⟨wsL_law0_r8_in _ (List.mem_of_getElem? (i := 11) rfl), by decide +kernel⟩
theorem lq_8_12 : lgd (Cond.methodLink RX1 66 yX1_breaksIn) := ⟨wsL_law0_r8_in _ (List.mem_of_getElem? (i := 12) rfl), by decide +kernel⟩
theorem lq_8_13 : lgd (Cond.instanceMethod yX1_breaksIn) := ⟨wsL_law0_r8_in _ (List.mem_of_getElem? (i := 13) rfl), by decide +kernel⟩
theorem lq_8_14 : lgd (Cond.selects RX1 yX1_breaksIn yX1_breaksIn) := ⟨wsL_law0_r8_in _ (List.mem_of_getElem? (i := 14) rfl), by decide +kernel⟩
theorem lq_8_15 : lgd (Cond.code yX1_breaksIn cX1_breaksIn 4 (some .boolean)) := ⟨wsL_law0_r8_in _ (List.mem_of_getElem? (i := 15) rfl), by decide +kernel⟩
theorem lq_8_16 : lgd (Cond.methodLink RX1 78 Lib.Math.max.name) := ⟨wsL_law0_r8_in _ (List.mem_of_getElem? (i := 16) rfl), by decide +kernel⟩
theorem lq_8_17 : lgd (Cond.methodLink RX1 70 yX1_slip) := ⟨wsL_law0_r8_in _ (List.mem_of_getElem? (i := 17) rfl), by decide +kernel⟩
theorem lq_8_18 : lgd (Cond.instanceMethod yX1_slip) := ⟨wsL_law0_r8_in _ (List.mem_of_getElem? (i := 18) rfl), by decide +kernel⟩
theorem lq_8_19 : lgd (Cond.selects RX1 yX1_slip yX1_slip) := ⟨wsL_law0_r8_in _ (List.mem_of_getElem? (i := 19) rfl), by decide +kernel⟩
theorem lq_8_20 : lgd (Cond.code yX1_slip cX1_slip 3 none) := ⟨wsL_law0_r8_in _ (List.mem_of_getElem? (i := 20) rfl), by decide +kernel⟩
theorem lq_8_21 : lgd (Cond.methodLink RX1 81 Lib.Math.min.name) := ⟨wsL_law0_r8_in _ (List.mem_of_getElem? (i := 21) rfl), by decide +kernel⟩
theorem lq_8_22 : lgd (Cond.methodLink RX1 74 yX1_swell) := ⟨wsL_law0_r8_in _ (List.mem_of_getElem? (i := 22) rfl), by decide +kernel⟩
theorem lq_8_23 : lgd (Cond.instanceMethod yX1_swell) := ⟨wsL_law0_r8_in _ (List.mem_of_getElem? (i := 23) rfl), by decide +kernel⟩
theorem lq_9_0 : lgd (Cond.selects RX1 yX1_swell yX1_swell) := ⟨wsL_law0_r9_in _ (List.mem_of_getElem? (i := 0) rfl), by decide +kernel⟩
theorem lq_9_1 : lgd (Cond.code yX1_swell cX1_swell 2 none) := ⟨wsL_law0_r9_in _ (List.mem_of_getElem? (i := 1) rfl), by decide +kernel⟩
theorem lq_9_2 : lgd (Cond.methodLink RL 82 yX2_count) := ⟨wsL_law0_r9_in _ (List.mem_of_getElem? (i := 2) rfl), by decide +kernel⟩
theorem lq_9_3 : lgd (Cond.instanceMethod yX2_count) := ⟨wsL_law0_r9_in _ (List.mem_of_getElem? (i := 3) rfl), by decide +kernel⟩
theorem lq_9_4 : lgd (Cond.selects RX2 yX2_count yX2_count) := ⟨wsL_law0_r9_in _ (List.mem_of_getElem? (i := 4) rfl), by decide +kernel⟩
theorem lq_9_5 : lgd (Cond.code yX2_count cX2_count 2 (some .int)) := ⟨wsL_law0_r9_in _ (List.mem_of_getElem? (i := 5) rfl), by decide +kernel⟩
theorem lq_9_6 : lgd (Cond.methodLink RX2 140 yX2_countOf) := ⟨wsL_law0_r9_in _ (List.mem_of_getElem? (i := 6) rfl), by decide +kernel⟩
theorem lq_9_7 : lgd (Cond.instanceMethod yX2_countOf) := ⟨wsL_law0_r9_in _ (List.mem_of_getElem? (i := 7) rfl), by decide +kernel⟩
theorem lq_9_8 : lgd (Cond.selects RX2 yX2_countOf yX2_countOf) := ⟨wsL_law0_r9_in _ (List.mem_of_getElem? (i := 8) rfl), by decide +kernel⟩
theorem lq_9_9 : lgd (Cond.code yX2_countOf cX2_countOf 2 (some .int)) := ⟨wsL_law0_r9_in _ (List.mem_of_getElem? (i := 9) rfl), by decide +kernel⟩
theorem lq_9_10 : lgd (Cond.fieldLink RX2 184 "WedgeHarps$Harp" "hour" "I") := ⟨wsL_law0_r9_in _ (List.mem_of_getElem? (i := 10) rfl), by decide +kernel⟩
theorem lq_9_11 : lgd (Cond.fieldLink RX2 190 "WedgeHarps$Harp" "swelling" "I") := ⟨wsL_law0_r9_in _ (List.mem_of_getElem? (i := 11) rfl), by decide +kernel⟩
theorem lq_9_12 : lgd (Cond.fieldLink RX2 197 "WedgeHarps$Harp" "strain" "[I") := ⟨wsL_law0_r9_in _ (List.mem_of_getElem? (i := 12) rfl), by decide +kernel⟩
theorem lq_9_13 : lgd (Cond.fieldLink RX2 200 "WedgeHarps$Harp" "breaks" "[I") := ⟨wsL_law0_r9_in _ (List.mem_of_getElem? (i := 13) rfl), by decide +kernel⟩
theorem lq_9_14 : lgd (Cond.methodLink RX2 160 yX1_wholeStrings) := ⟨wsL_law0_r9_in _ (List.mem_of_getElem? (i := 14) rfl), by decide +kernel⟩
theorem lq_9_15 : lgd (Cond.instanceMethod yX1_wholeStrings) := ⟨wsL_law0_r9_in _ (List.mem_of_getElem? (i := 15) rfl), by decide +kernel⟩
theorem lq_9_16 : lgd (Cond.selects RX1 yX1_wholeStrings yX1_wholeStrings) := ⟨wsL_law0_r9_in _ (List.mem_of_getElem? (i := 16) rfl), by decide +kernel⟩
theorem lq_9_17 : lgd (Cond.code yX1_wholeStrings cX1_wholeStrings 3 (some .int)) := ⟨wsL_law0_r9_in _ (List.mem_of_getElem? (i := 17) rfl), by decide +kernel⟩
theorem lq_9_18 : lgd (Cond.methodLink RX2 187 yX2_soundingChords) := ⟨wsL_law0_r9_in _ (List.mem_of_getElem? (i := 18) rfl), by decide +kernel⟩
theorem lq_9_19 : lgd (Cond.instanceMethod yX2_soundingChords) := ⟨wsL_law0_r9_in _ (List.mem_of_getElem? (i := 19) rfl), by decide +kernel⟩
theorem lq_9_20 : lgd (Cond.selects RX2 yX2_soundingChords yX2_soundingChords) := ⟨wsL_law0_r9_in _ (List.mem_of_getElem? (i := 20) rfl), by decide +kernel⟩
theorem lq_9_21 : lgd (Cond.code yX2_soundingChords cX2_soundingChords 3 (some .int)) := ⟨wsL_law0_r9_in _ (List.mem_of_getElem? (i := 21) rfl), by decide +kernel⟩
theorem lq_9_22 : lgd (Cond.methodLink RX2 123 yX1_isTunedTo) := ⟨wsL_law0_r9_in _ (List.mem_of_getElem? (i := 22) rfl), by decide +kernel⟩
theorem lq_9_23 : lgd (Cond.instanceMethod yX1_isTunedTo) := ⟨wsL_law0_r9_in _ (List.mem_of_getElem? (i := 23) rfl), by decide +kernel⟩
theorem lq_10_0 : lgd (Cond.selects RX1 yX1_isTunedTo yX1_isTunedTo) := ⟨wsL_law0_r10_in _ (List.mem_of_getElem? (i := 0) rfl), by decide +kernel⟩
theorem lq_10_1 : lgd (Cond.code yX1_isTunedTo cX1_isTunedTo 3 (some .boolean)) := ⟨wsL_law0_r10_in _ (List.mem_of_getElem? (i := 1) rfl), by decide +kernel⟩
theorem lq_10_2 : lgd (Cond.fieldLink RX1 42 "WedgeHarps$Chord" "size" "I") := ⟨wsL_law0_r10_in _ (List.mem_of_getElem? (i := 2) rfl), by decide +kernel⟩
theorem lq_10_3 : lgd (Cond.methodLink RX1 58 yX1_fitsPushed) := ⟨wsL_law0_r10_in _ (List.mem_of_getElem? (i := 3) rfl), by decide +kernel⟩
theorem lq_10_4 : lgd (Cond.instanceMethod yX1_fitsPushed) := ⟨wsL_law0_r10_in _ (List.mem_of_getElem? (i := 4) rfl), by decide +kernel⟩
theorem lq_10_5 : lgd (Cond.selects RX1 yX1_fitsPushed yX1_fitsPushed) := ⟨wsL_law0_r10_in _ (List.mem_of_getElem? (i := 5) rfl), by decide +kernel⟩
theorem lq_10_6 : lgd (Cond.code yX1_fitsPushed cX1_fitsPushed 7 (some .boolean)) := ⟨wsL_law0_r10_in _ (List.mem_of_getElem? (i := 6) rfl), by decide +kernel⟩
theorem lq_10_7 : lgd (Cond.fieldLink RX1 47 "WedgeHarps$Chord" "lowest" "I") := ⟨wsL_law0_r10_in _ (List.mem_of_getElem? (i := 7) rfl), by decide +kernel⟩
theorem lq_10_8 : lgd (Cond.fieldLink RX1 50 "WedgeHarps$Chord" "tones" "[I") := ⟨wsL_law0_r10_in _ (List.mem_of_getElem? (i := 8) rfl), by decide +kernel⟩
theorem lq_10_9 : lgd (Cond.methodLink RX1 53 Lib.Math.abs.name) := ⟨wsL_law0_r10_in _ (List.mem_of_getElem? (i := 9) rfl), by decide +kernel⟩
theorem lq_10_10 : lgd (Cond.static Lib.Math.abs.name) := ⟨wsL_law0_r10_in _ (List.mem_of_getElem? (i := 10) rfl), by decide +kernel⟩
theorem lq_10_11 : lgd (Cond.code Lib.Math.abs.name Lib.Math.abs.code 1 (some .int)) := ⟨wsL_law0_r10_in _ (List.mem_of_getElem? (i := 11) rfl), by decide +kernel⟩
theorem lq_10_12 : lgd (Cond.methodLink RX2 193 yX2_sumOf) := ⟨wsL_law0_r10_in _ (List.mem_of_getElem? (i := 12) rfl), by decide +kernel⟩
theorem lq_10_13 : lgd (Cond.static yX2_sumOf) := ⟨wsL_law0_r10_in _ (List.mem_of_getElem? (i := 13) rfl), by decide +kernel⟩
theorem lq_10_14 : lgd (Cond.code yX2_sumOf cX2_sumOf 6 (some .int)) := ⟨wsL_law0_r10_in _ (List.mem_of_getElem? (i := 14) rfl), by decide +kernel⟩
theorem lq_10_15 : lgd (Cond.methodLink RL 85 yX2_first) := ⟨wsL_law0_r10_in _ (List.mem_of_getElem? (i := 15) rfl), by decide +kernel⟩
theorem lq_10_16 : lgd (Cond.instanceMethod yX2_first) := ⟨wsL_law0_r10_in _ (List.mem_of_getElem? (i := 16) rfl), by decide +kernel⟩
theorem lq_10_17 : lgd (Cond.selects RX2 yX2_first yX2_first) := ⟨wsL_law0_r10_in _ (List.mem_of_getElem? (i := 17) rfl), by decide +kernel⟩
theorem lq_10_18 : lgd (Cond.code yX2_first cX2_first 2 (some .int)) := ⟨wsL_law0_r10_in _ (List.mem_of_getElem? (i := 18) rfl), by decide +kernel⟩
theorem lq_10_19 : lgd (Cond.methodLink RX2 150 yX2_lowestToBreak) := ⟨wsL_law0_r10_in _ (List.mem_of_getElem? (i := 19) rfl), by decide +kernel⟩
theorem lq_10_20 : lgd (Cond.instanceMethod yX2_lowestToBreak) := ⟨wsL_law0_r10_in _ (List.mem_of_getElem? (i := 20) rfl), by decide +kernel⟩
theorem lq_10_21 : lgd (Cond.selects RX2 yX2_lowestToBreak yX2_lowestToBreak) := ⟨wsL_law0_r10_in _ (List.mem_of_getElem? (i := 21) rfl), by decide +kernel⟩
theorem lq_10_22 : lgd (Cond.code yX2_lowestToBreak cX2_lowestToBreak 2 (some .int)) := ⟨wsL_law0_r10_in _ (List.mem_of_getElem? (i := 22) rfl), by decide +kernel⟩
theorem lq_10_23 : lgd (Cond.fieldLink RX2 91 "WedgeHarps$Harp" "whole" "[Z") := ⟨wsL_law0_r10_in _ (List.mem_of_getElem? (i := 23) rfl), by decide +kernel⟩
theorem lq_11_0 : lgd (Cond.methodLink RL 89 yX2_holds) := ⟨wsL_law0_r11_in _ (List.mem_of_getElem? (i := 0) rfl), by decide +kernel⟩
theorem lq_11_1 : lgd (Cond.instanceMethod yX2_holds) := ⟨wsL_law0_r11_in _ (List.mem_of_getElem? (i := 1) rfl), by decide +kernel⟩
theorem lq_11_2 : lgd (Cond.selects RX2 yX2_holds yX2_holds) := ⟨wsL_law0_r11_in _ (List.mem_of_getElem? (i := 2) rfl), by decide +kernel⟩
theorem lq_11_3 : lgd (Cond.code yX2_holds cX2_holds 4 (some .int)) := ⟨wsL_law0_r11_in _ (List.mem_of_getElem? (i := 3) rfl), by decide +kernel⟩
theorem lq_11_4 : lgd (Cond.fieldLink RX2 154 "WedgeHarps$Chord" "lowest" "I") := ⟨wsL_law0_r11_in _ (List.mem_of_getElem? (i := 4) rfl), by decide +kernel⟩
theorem lq_11_5 : lgd (Cond.fieldLink RX2 157 "WedgeHarps$Chord" "size" "I") := ⟨wsL_law0_r11_in _ (List.mem_of_getElem? (i := 5) rfl), by decide +kernel⟩
theorem lq_11_6 : lgd (Cond.methodLink RX2 116 yX2_checkChord) := ⟨wsL_law0_r11_in _ (List.mem_of_getElem? (i := 6) rfl), by decide +kernel⟩
theorem lq_11_7 : lgd (Cond.instanceMethod yX2_checkChord) := ⟨wsL_law0_r11_in _ (List.mem_of_getElem? (i := 7) rfl), by decide +kernel⟩
theorem lq_11_8 : lgd (Cond.selects RX2 yX2_checkChord yX2_checkChord) := ⟨wsL_law0_r11_in _ (List.mem_of_getElem? (i := 8) rfl), by decide +kernel⟩
theorem lq_11_9 : lgd (Cond.code yX2_checkChord cX2_checkChord 2 none) := ⟨wsL_law0_r11_in _ (List.mem_of_getElem? (i := 9) rfl), by decide +kernel⟩
theorem lq_11_10 : lgd (Cond.methodLink RL 92 yX2_pass) := ⟨wsL_law0_r11_in _ (List.mem_of_getElem? (i := 10) rfl), by decide +kernel⟩
theorem lq_11_11 : lgd (Cond.instanceMethod yX2_pass) := ⟨wsL_law0_r11_in _ (List.mem_of_getElem? (i := 11) rfl), by decide +kernel⟩
theorem lq_11_12 : lgd (Cond.selects RX2 yX2_pass yX2_pass) := ⟨wsL_law0_r11_in _ (List.mem_of_getElem? (i := 12) rfl), by decide +kernel⟩
theorem lq_11_13 : lgd (Cond.code yX2_pass cX2_pass 4 (some .int)) := ⟨wsL_law0_r11_in _ (List.mem_of_getElem? (i := 13) rfl), by decide +kernel⟩
theorem lq_11_14 : lgd (Cond.methodLink RL 95 yX3_pass_) := ⟨wsL_law0_r11_in _ (List.mem_of_getElem? (i := 14) rfl), by decide +kernel⟩
theorem lq_11_15 : lgd (Cond.instanceMethod yX3_pass_) := ⟨wsL_law0_r11_in _ (List.mem_of_getElem? (i := 15) rfl), by decide +kernel⟩
theorem lq_11_16 : lgd (Cond.selects RX3 yX3_pass_ yX3_pass_) := ⟨wsL_law0_r11_in _ (List.mem_of_getElem? (i := 16) rfl), by decide +kernel⟩
theorem lq_11_17 : lgd (Cond.code yX3_pass_ cX3_pass_ 1 (some .int)) := ⟨wsL_law0_r11_in _ (List.mem_of_getElem? (i := 17) rfl), by decide +kernel⟩
theorem lq_11_18 : lgd (Cond.fieldLink RX3 25 "WedgeHarpsLaw$Sim" "hour" "I") := ⟨wsL_law0_r11_in _ (List.mem_of_getElem? (i := 18) rfl), by decide +kernel⟩
theorem lq_11_19 : lgd (Cond.methodLink RX3 56 yX3_pass) := ⟨wsL_law0_r11_in _ (List.mem_of_getElem? (i := 19) rfl), by decide +kernel⟩
theorem lq_11_20 : lgd (Cond.instanceMethod yX3_pass) := ⟨wsL_law0_r11_in _ (List.mem_of_getElem? (i := 20) rfl), by decide +kernel⟩
theorem lq_11_21 : lgd (Cond.selects RX3 yX3_pass yX3_pass) := ⟨wsL_law0_r11_in _ (List.mem_of_getElem? (i := 21) rfl), by decide +kernel⟩
theorem lq_11_22 : lgd (Cond.code yX3_pass cX3_pass 7 (some .int)) := ⟨wsL_law0_r11_in _ (List.mem_of_getElem? (i := 22) rfl), by decide +kernel⟩
theorem lq_11_23 : lgd (Cond.methodLink RX3 49 Lib.Math.min.name) := ⟨wsL_law0_r11_in _ (List.mem_of_getElem? (i := 23) rfl), by decide +kernel⟩
theorem lq_12_0 : lgd (Cond.methodLink RX3 53 Lib.Math.max.name) := ⟨wsL_law0_r12_in _ (List.mem_of_getElem? (i := 0) rfl), by decide +kernel⟩
theorem lq_12_1 : lgd (Cond.methodLink RX3 32 yX3_tone) := ⟨wsL_law0_r12_in _ (List.mem_of_getElem? (i := 1) rfl), by decide +kernel⟩
theorem lq_12_2 : lgd (Cond.methodLink RL 100 yX2_sounds) := ⟨wsL_law0_r12_in _ (List.mem_of_getElem? (i := 2) rfl), by decide +kernel⟩
theorem lq_12_3 : lgd (Cond.instanceMethod yX2_sounds) := ⟨wsL_law0_r12_in _ (List.mem_of_getElem? (i := 3) rfl), by decide +kernel⟩
theorem lq_12_4 : lgd (Cond.selects RX2 yX2_sounds yX2_sounds) := ⟨wsL_law0_r12_in _ (List.mem_of_getElem? (i := 4) rfl), by decide +kernel⟩
theorem lq_12_5 : lgd (Cond.code yX2_sounds cX2_sounds 2 (some .boolean)) := ⟨wsL_law0_r12_in _ (List.mem_of_getElem? (i := 5) rfl), by decide +kernel⟩
theorem lq_12_6 : lgd (Cond.methodLink RL 104 yX2_off) := ⟨wsL_law0_r12_in _ (List.mem_of_getElem? (i := 6) rfl), by decide +kernel⟩
theorem lq_12_7 : lgd (Cond.instanceMethod yX2_off) := ⟨wsL_law0_r12_in _ (List.mem_of_getElem? (i := 7) rfl), by decide +kernel⟩
theorem lq_12_8 : lgd (Cond.selects RX2 yX2_off yX2_off) := ⟨wsL_law0_r12_in _ (List.mem_of_getElem? (i := 8) rfl), by decide +kernel⟩
theorem lq_12_9 : lgd (Cond.code yX2_off cX2_off 2 (some .int)) := ⟨wsL_law0_r12_in _ (List.mem_of_getElem? (i := 9) rfl), by decide +kernel⟩
theorem lq_12_10 : lgd (Cond.methodLink RX2 119 yX1_distanceFrom) := ⟨wsL_law0_r12_in _ (List.mem_of_getElem? (i := 10) rfl), by decide +kernel⟩
theorem lq_12_11 : lgd (Cond.instanceMethod yX1_distanceFrom) := ⟨wsL_law0_r12_in _ (List.mem_of_getElem? (i := 11) rfl), by decide +kernel⟩
theorem lq_12_12 : lgd (Cond.selects RX1 yX1_distanceFrom yX1_distanceFrom) := ⟨wsL_law0_r12_in _ (List.mem_of_getElem? (i := 12) rfl), by decide +kernel⟩
theorem lq_12_13 : lgd (Cond.code yX1_distanceFrom cX1_distanceFrom 4 (some .int)) := ⟨wsL_law0_r12_in _ (List.mem_of_getElem? (i := 13) rfl), by decide +kernel⟩
theorem lq_12_14 : lgd (Cond.methodLink RL 107 yX2_steps) := ⟨wsL_law0_r12_in _ (List.mem_of_getElem? (i := 14) rfl), by decide +kernel⟩
theorem lq_12_15 : lgd (Cond.instanceMethod yX2_steps) := ⟨wsL_law0_r12_in _ (List.mem_of_getElem? (i := 15) rfl), by decide +kernel⟩
theorem lq_12_16 : lgd (Cond.selects RX2 yX2_steps yX2_steps) := ⟨wsL_law0_r12_in _ (List.mem_of_getElem? (i := 16) rfl), by decide +kernel⟩
theorem lq_12_17 : lgd (Cond.code yX2_steps cX2_steps 3 (some .int)) := ⟨wsL_law0_r12_in _ (List.mem_of_getElem? (i := 17) rfl), by decide +kernel⟩
theorem lq_12_18 : lgd (Cond.methodLink RX2 127 yX2_fewestSteps) := ⟨wsL_law0_r12_in _ (List.mem_of_getElem? (i := 18) rfl), by decide +kernel⟩
theorem lq_12_19 : lgd (Cond.static yX2_fewestSteps) := ⟨wsL_law0_r12_in _ (List.mem_of_getElem? (i := 19) rfl), by decide +kernel⟩
theorem lq_12_20 : lgd (Cond.code yX2_fewestSteps cX2_fewestSteps 8 (some .int)) := ⟨wsL_law0_r12_in _ (List.mem_of_getElem? (i := 20) rfl), by decide +kernel⟩
theorem lq_12_21 : lgd (Cond.methodLink RX2 95 Lib.Math.abs.name) := ⟨wsL_law0_r12_in _ (List.mem_of_getElem? (i := 21) rfl), by decide +kernel⟩
theorem lq_12_22 : lgd (Cond.methodLink RX2 217 Lib.Math.min.name) := ⟨wsL_law0_r12_in _ (List.mem_of_getElem? (i := 22) rfl), by decide +kernel⟩
theorem lq_12_23 : lgd (Cond.methodLink RX2 213 yX1_fitsPushed) := ⟨wsL_law0_r12_in _ (List.mem_of_getElem? (i := 23) rfl), by decide +kernel⟩
theorem lq_13_0 : lgd (Cond.methodLink RL 110 yX3_isSame) := ⟨wsL_law0_r13_in _ (List.mem_of_getElem? (i := 0) rfl), by decide +kernel⟩
theorem lq_13_1 : lgd (Cond.instanceMethod yX3_isSame) := ⟨wsL_law0_r13_in _ (List.mem_of_getElem? (i := 1) rfl), by decide +kernel⟩
theorem lq_13_2 : lgd (Cond.selects RX3 yX3_isSame yX3_isSame) := ⟨wsL_law0_r13_in _ (List.mem_of_getElem? (i := 2) rfl), by decide +kernel⟩
theorem lq_13_3 : lgd (Cond.code yX3_isSame cX3_isSame 7 (some .boolean)) := ⟨wsL_law0_r13_in _ (List.mem_of_getElem? (i := 3) rfl), by decide +kernel⟩
theorem lq_13_4 : lgd (Cond.methodLink RX3 59 yX2_string) := ⟨wsL_law0_r13_in _ (List.mem_of_getElem? (i := 4) rfl), by decide +kernel⟩
theorem lq_13_5 : lgd (Cond.methodLink RX3 36 yX3_sounds) := ⟨wsL_law0_r13_in _ (List.mem_of_getElem? (i := 5) rfl), by decide +kernel⟩
theorem lq_13_6 : lgd (Cond.instanceMethod yX3_sounds) := ⟨wsL_law0_r13_in _ (List.mem_of_getElem? (i := 6) rfl), by decide +kernel⟩
theorem lq_13_7 : lgd (Cond.selects RX3 yX3_sounds yX3_sounds) := ⟨wsL_law0_r13_in _ (List.mem_of_getElem? (i := 7) rfl), by decide +kernel⟩
theorem lq_13_8 : lgd (Cond.code yX3_sounds cX3_sounds 4 (some .boolean)) := ⟨wsL_law0_r13_in _ (List.mem_of_getElem? (i := 8) rfl), by decide +kernel⟩
theorem lq_13_9 : lgd (Cond.methodLink RX3 64 yX2_off) := ⟨wsL_law0_r13_in _ (List.mem_of_getElem? (i := 9) rfl), by decide +kernel⟩
theorem lq_13_10 : lgd (Cond.methodLink RX3 67 yX3_off) := ⟨wsL_law0_r13_in _ (List.mem_of_getElem? (i := 10) rfl), by decide +kernel⟩
theorem lq_13_11 : lgd (Cond.instanceMethod yX3_off) := ⟨wsL_law0_r13_in _ (List.mem_of_getElem? (i := 11) rfl), by decide +kernel⟩
theorem lq_13_12 : lgd (Cond.selects RX3 yX3_off yX3_off) := ⟨wsL_law0_r13_in _ (List.mem_of_getElem? (i := 12) rfl), by decide +kernel⟩
theorem lq_13_13 : lgd (Cond.code yX3_off cX3_off 5 (some .int)) := ⟨wsL_law0_r13_in _ (List.mem_of_getElem? (i := 13) rfl), by decide +kernel⟩
theorem lq_13_14 : lgd (Cond.methodLink RX3 70 yX2_sounds) := ⟨wsL_law0_r13_in _ (List.mem_of_getElem? (i := 14) rfl), by decide +kernel⟩
theorem lq_13_15 : lgd (Cond.methodLink RX3 73 yX2_count) := ⟨wsL_law0_r13_in _ (List.mem_of_getElem? (i := 15) rfl), by decide +kernel⟩
theorem lq_13_16 : lgd (Cond.methodLink RX3 76 yX2_mean) := ⟨wsL_law0_r13_in _ (List.mem_of_getElem? (i := 16) rfl), by decide +kernel⟩
theorem lq_13_17 : lgd (Cond.instanceMethod yX2_mean) := ⟨wsL_law0_r13_in _ (List.mem_of_getElem? (i := 17) rfl), by decide +kernel⟩
theorem lq_13_18 : lgd (Cond.selects RX2 yX2_mean yX2_mean) := ⟨wsL_law0_r13_in _ (List.mem_of_getElem? (i := 18) rfl), by decide +kernel⟩
theorem lq_13_19 : lgd (Cond.code yX2_mean cX2_mean 2 (some .double)) := ⟨wsL_law0_r13_in _ (List.mem_of_getElem? (i := 19) rfl), by decide +kernel⟩
theorem lq_13_20 : lgd (Cond.methodLink RX2 163 yX1_sumOfTones) := ⟨wsL_law0_r13_in _ (List.mem_of_getElem? (i := 20) rfl), by decide +kernel⟩
theorem lq_13_21 : lgd (Cond.instanceMethod yX1_sumOfTones) := ⟨wsL_law0_r13_in _ (List.mem_of_getElem? (i := 21) rfl), by decide +kernel⟩
theorem lq_13_22 : lgd (Cond.selects RX1 yX1_sumOfTones yX1_sumOfTones) := ⟨wsL_law0_r13_in _ (List.mem_of_getElem? (i := 22) rfl), by decide +kernel⟩
theorem lq_13_23 : lgd (Cond.code yX1_sumOfTones cX1_sumOfTones 3 (some .int)) := ⟨wsL_law0_r13_in _ (List.mem_of_getElem? (i := 23) rfl), by decide +kernel⟩
theorem lg_wsX2_init_r1 : GoodIn lw_tbl wsX2_init_r1 := (lg_c lq_1_19 (lg_c lq_1_20 (lg_c lq_1_21 (lg_c lq_1_22 (lg_c lq_1_23 (lg_c lq_2_0 (lg_c lq_2_1 (lg_c lq_2_2 (lg_c lq_1_4 (lg_c lq_2_3 (lg_c lq_2_4 (lg_c lq_2_5 (lg_c lq_2_6 (lg_c lq_2_7 (lg_c lq_2_8 (lg_c lq_2_9 (lg_c lq_2_10 (lg_c lq_2_11 (lg_c lq_2_12 (lg_c lq_2_13 (lg_c lq_2_14 (lg_c lq_2_15 (lg_c lq_2_16 (lg_c lq_2_17 lg_n))))))))))))))))))))))))
theorem lg_wsX2_init_r2 : GoodIn lw_tbl wsX2_init_r2 := (lg_c lq_2_18 (lg_c lq_2_19 (lg_c lq_2_20 (lg_c lq_2_21 (lg_c lq_2_22 (lg_c lq_2_23 (lg_c lq_3_0 (lg_c lq_3_1 (lg_c lq_3_2 (lg_c lq_3_3 (lg_c lq_3_4 (lg_c lq_3_5 lg_n))))))))))))
theorem lg_wsX2_init : GoodIn lw_tbl wsX2_init := (lg_c lq_1_18 (goodIn_app (goodIn_app (goodIn_app (goodIn_app lg_wsX2_init_r1 lg_wsX2_init_r2) lg_wsX10) lg_wsX20) lg_wsX00))
theorem lg_wsL_build_r1 : GoodIn lw_tbl wsL_build_r1 := (lg_c lq_3_10 (lg_c lq_3_11 (lg_c lq_3_12 (lg_c lq_1_5 (lg_c lq_1_7 (lg_c lq_3_13 (lg_c lq_3_14 (lg_c lq_3_15 (lg_c lq_3_16 (lg_c lq_3_17 (lg_c lq_1_20 (lg_c lq_1_21 (lg_c lq_3_18 (lg_c lq_3_19 (lg_c lq_3_20 (lg_c lq_1_4 (lg_c lq_3_21 (lg_c lq_3_22 (lg_c lq_3_23 (lg_c lq_4_0 (lg_c lq_3_8 (lg_c lq_4_1 (lg_c lq_4_2 (lg_c lq_4_3 lg_n))))))))))))))))))))))))
theorem lg_wsL_build_r2 : GoodIn lw_tbl wsL_build_r2 := (lg_c lq_4_4 (lg_c lq_4_5 (lg_c lq_4_6 (lg_c lq_4_7 (lg_c lq_4_8 (lg_c lq_4_9 (lg_c lq_1_2 (lg_c lq_4_10 (lg_c lq_4_11 (lg_c lq_4_12 (lg_c lq_4_13 (lg_c lq_4_14 (lg_c lq_2_3 (lg_c lq_2_4 (lg_c lq_4_15 (lg_c lq_4_16 (lg_c lq_4_17 (lg_c lq_4_18 (lg_c lq_4_19 (lg_c lq_4_20 (lg_c lq_4_21 (lg_c lq_4_22 (lg_c lq_2_1 (lg_c lq_4_23 lg_n))))))))))))))))))))))))
theorem lg_wsL_build_r3 : GoodIn lw_tbl wsL_build_r3 := (lg_c lq_5_0 (lg_c lq_5_1 (lg_c lq_5_2 (lg_c lq_5_3 (lg_c lq_5_4 (lg_c lq_2_0 (lg_c lq_5_5 (lg_c lq_2_14 (lg_c lq_2_16 (lg_c lq_2_17 (lg_c lq_2_20 (lg_c lq_5_6 (lg_c lq_5_7 (lg_c lq_5_8 (lg_c lq_5_9 (lg_c lq_2_15 (lg_c lq_2_21 (lg_c lq_5_10 (lg_c lq_5_11 (lg_c lq_5_12 (lg_c lq_5_13 (lg_c lq_5_14 (lg_c lq_5_15 (lg_c lq_5_16 lg_n))))))))))))))))))))))))
theorem lg_wsL_build_r4 : GoodIn lw_tbl wsL_build_r4 := (lg_c lq_5_17 (lg_c lq_5_18 (lg_c lq_5_19 (lg_c lq_5_20 (lg_c lq_5_21 (lg_c lq_5_22 (lg_c lq_5_23 (lg_c lq_6_0 (lg_c lq_6_1 (lg_c lq_6_2 (lg_c lq_6_3 (lg_c lq_6_4 (lg_c lq_6_5 (lg_c lq_6_6 (lg_c lq_6_7 (lg_c lq_1_15 (lg_c lq_1_12 (lg_c lq_1_13 (lg_c lq_1_10 (lg_c lq_1_14 (lg_c lq_6_8 (lg_c lq_6_9 (lg_c lq_6_10 (lg_c lq_6_11 lg_n))))))))))))))))))))))))
theorem lg_wsL_build_r5 : GoodIn lw_tbl wsL_build_r5 := (lg_c lq_6_12 (lg_c lq_2_9 (lg_c lq_2_6 (lg_c lq_6_13 (lg_c lq_6_14 (lg_c lq_6_15 (lg_c lq_6_16 (lg_c lq_6_17 (lg_c lq_6_18 (lg_c lq_2_8 (lg_c lq_6_19 (lg_c lq_3_4 (lg_c lq_3_5 (lg_c lq_6_20 (lg_c lq_6_21 (lg_c lq_6_22 (lg_c lq_6_23 (lg_c lq_3_3 lg_n))))))))))))))))))
theorem lg_wsL_build : GoodIn lw_tbl wsL_build := (lg_c lq_3_9 (goodIn_app (goodIn_app (goodIn_app (goodIn_app (goodIn_app (goodIn_app (goodIn_app (goodIn_app lg_wsL_build_r1 (goodIn_app lg_wsL_build_r2 (goodIn_app lg_wsL_build_r3 (goodIn_app lg_wsL_build_r4 lg_wsL_build_r5)))) lg_wsX30) lg_wsX20) lg_wsX10) lg_wsX00) lg_v2) lg_v0) lg_v1))
theorem lg_wsL_cell : GoodIn lw_tbl wsL_cell := (lg_c lq_4_1 (lg_c lq_4_2 lg_n))
theorem lg_wsL_act_r1 : GoodIn lw_tbl wsL_act_r1 := (lg_c lq_3_13 (lg_c lq_1_4 (lg_c lq_1_5 (lg_c lq_1_7 (lg_c lq_1_15 (lg_c lq_1_12 (lg_c lq_1_13 (lg_c lq_1_10 (lg_c lq_1_14 (lg_c lq_6_8 (lg_c lq_4_3 (lg_c lq_4_4 (lg_c lq_3_8 (lg_c lq_4_5 (lg_c lq_4_6 (lg_c lq_5_15 (lg_c lq_5_16 (lg_c lq_5_17 (lg_c lq_1_2 (lg_c lq_5_18 (lg_c lq_4_13 (lg_c lq_4_14 (lg_c lq_5_19 (lg_c lq_5_20 lg_n))))))))))))))))))))))))
theorem lg_wsL_act_r2 : GoodIn lw_tbl wsL_act_r2 := (lg_c lq_2_1 (lg_c lq_5_21 (lg_c lq_4_23 (lg_c lq_5_0 (lg_c lq_5_1 (lg_c lq_4_11 (lg_c lq_4_12 (lg_c lq_5_22 (lg_c lq_5_23 (lg_c lq_6_0 (lg_c lq_6_1 (lg_c lq_6_2 (lg_c lq_6_3 (lg_c lq_2_0 (lg_c lq_6_4 (lg_c lq_2_15 (lg_c lq_5_6 (lg_c lq_5_7 (lg_c lq_5_8 (lg_c lq_5_9 (lg_c lq_2_20 (lg_c lq_2_14 (lg_c lq_2_16 (lg_c lq_2_21 lg_n))))))))))))))))))))))))
theorem lg_wsL_act_r3 : GoodIn lw_tbl wsL_act_r3 := (lg_c lq_5_10 (lg_c lq_5_11 (lg_c lq_5_12 (lg_c lq_3_12 (lg_c lq_5_13 (lg_c lq_3_19 (lg_c lq_5_14 (lg_c lq_4_19 (lg_c lq_4_20 (lg_c lq_4_21 (lg_c lq_4_22 (lg_c lq_5_2 (lg_c lq_5_3 (lg_c lq_5_4 (lg_c lq_5_5 (lg_c lq_2_17 (lg_c lq_4_7 (lg_c lq_4_8 (lg_c lq_4_9 (lg_c lq_4_10 (lg_c lq_2_3 (lg_c lq_2_4 (lg_c lq_4_15 (lg_c lq_4_16 lg_n))))))))))))))))))))))))
theorem lg_wsL_act_r4 : GoodIn lw_tbl wsL_act_r4 := (lg_c lq_4_17 (lg_c lq_4_18 (lg_c lq_6_9 (lg_c lq_6_10 (lg_c lq_6_11 (lg_c lq_6_12 (lg_c lq_2_9 (lg_c lq_2_6 (lg_c lq_6_13 (lg_c lq_6_14 (lg_c lq_6_15 (lg_c lq_6_16 (lg_c lq_6_17 (lg_c lq_6_18 (lg_c lq_2_8 (lg_c lq_6_19 (lg_c lq_3_4 (lg_c lq_3_5 (lg_c lq_6_20 (lg_c lq_6_21 (lg_c lq_6_22 (lg_c lq_6_23 (lg_c lq_3_3 lg_n)))))))))))))))))))))))
theorem lg_wsL_act : GoodIn lw_tbl wsL_act := (lg_c lq_6_7 (goodIn_app (goodIn_app (goodIn_app (goodIn_app (goodIn_app (goodIn_app (goodIn_app (goodIn_app lg_wsL_act_r1 (goodIn_app lg_wsL_act_r2 (goodIn_app lg_wsL_act_r3 lg_wsL_act_r4))) lg_wsX30) lg_wsX20) lg_wsX10) lg_wsX00) lg_v0) lg_v1) lg_v2))
theorem lg_wsX2_string : GoodIn lw_tbl wsX2_string := (lg_c lq_7_3 (goodIn_app (goodIn_app (goodIn_app (lg_c lq_4_11 (lg_c lq_4_12 (lg_c lq_2_1 (lg_c lq_4_23 (lg_c lq_5_0 (lg_c lq_1_2 (lg_c lq_5_1 (lg_c lq_7_4 (lg_c lq_7_5 (lg_c lq_7_6 (lg_c lq_2_0 (lg_c lq_7_7 (lg_c lq_2_14 (lg_c lq_2_15 (lg_c lq_2_16 (lg_c lq_2_17 (lg_c lq_2_20 (lg_c lq_2_18 (lg_c lq_7_8 (lg_c lq_5_7 (lg_c lq_5_8 (lg_c lq_5_9 (lg_c lq_2_21 lg_n))))))))))))))))))))))) lg_wsX20) lg_wsX10) lg_v2))
theorem lg_wsX2_foresee_r1 : GoodIn lw_tbl wsX2_foresee_r1 := (lg_c lq_2_2 (lg_c lq_2_1 (lg_c lq_7_13 (lg_c lq_7_14 (lg_c lq_1_2 (lg_c lq_7_15 (lg_c lq_4_13 (lg_c lq_4_14 (lg_c lq_4_23 (lg_c lq_5_0 (lg_c lq_5_1 (lg_c lq_4_11 (lg_c lq_4_12 (lg_c lq_7_16 (lg_c lq_7_17 (lg_c lq_7_18 (lg_c lq_2_0 (lg_c lq_7_19 (lg_c lq_2_14 (lg_c lq_2_15 (lg_c lq_2_16 (lg_c lq_2_17 (lg_c lq_2_18 (lg_c lq_2_20 lg_n))))))))))))))))))))))))
theorem lg_wsX2_foresee_r2 : GoodIn lw_tbl wsX2_foresee_r2 := (lg_c lq_2_21 (lg_c lq_2_22 (lg_c lq_7_20 (lg_c lq_7_21 (lg_c lq_7_22 (lg_c lq_7_23 (lg_c lq_2_3 (lg_c lq_2_4 (lg_c lq_8_0 (lg_c lq_8_1 (lg_c lq_8_2 (lg_c lq_8_3 (lg_c lq_8_4 (lg_c lq_8_5 (lg_c lq_8_6 (lg_c lq_8_7 (lg_c lq_8_8 (lg_c lq_8_9 (lg_c lq_8_10 (lg_c lq_8_11 (lg_c lq_8_12 (lg_c lq_8_13 (lg_c lq_8_14 (lg_c lq_8_15 lg_n))))))))))))))))))))))))
theorem lg_wsX2_foresee_r3 : GoodIn lw_tbl wsX2_foresee_r3 := (lg_c lq_8_16 (lg_c lq_1_13 (lg_c lq_1_10 (lg_c lq_1_14 (lg_c lq_7_8 (lg_c lq_5_7 (lg_c lq_5_8 (lg_c lq_5_9 (lg_c lq_8_17 (lg_c lq_8_18 (lg_c lq_8_19 (lg_c lq_8_20 (lg_c lq_8_21 (lg_c lq_1_9 (lg_c lq_1_11 (lg_c lq_8_22 (lg_c lq_8_23 (lg_c lq_9_0 (lg_c lq_9_1 (lg_c lq_5_6 lg_n))))))))))))))))))))
theorem lg_wsX2_foresee : GoodIn lw_tbl wsX2_foresee := (lg_c lq_7_12 (goodIn_app (goodIn_app (goodIn_app (goodIn_app (goodIn_app lg_wsX2_foresee_r1 (goodIn_app lg_wsX2_foresee_r2 lg_wsX2_foresee_r3)) lg_wsX20) lg_wsX10) lg_v0) lg_v2))
theorem lg_wsX2_count_r1 : GoodIn lw_tbl wsX2_count_r1 := (lg_c lq_4_11 (lg_c lq_4_12 (lg_c lq_9_6 (lg_c lq_9_7 (lg_c lq_9_8 (lg_c lq_1_2 (lg_c lq_9_9 (lg_c lq_2_1 (lg_c lq_9_10 (lg_c lq_2_9 (lg_c lq_9_11 (lg_c lq_5_21 (lg_c lq_9_12 (lg_c lq_9_13 (lg_c lq_9_14 (lg_c lq_9_15 (lg_c lq_9_16 (lg_c lq_2_0 (lg_c lq_9_17 (lg_c lq_2_20 (lg_c lq_9_18 (lg_c lq_9_19 (lg_c lq_9_20 (lg_c lq_9_21 lg_n))))))))))))))))))))))))
theorem lg_wsX2_count_r2 : GoodIn lw_tbl wsX2_count_r2 := (lg_c lq_2_6 (lg_c lq_9_22 (lg_c lq_9_23 (lg_c lq_10_0 (lg_c lq_10_1 (lg_c lq_10_2 (lg_c lq_10_3 (lg_c lq_10_4 (lg_c lq_10_5 (lg_c lq_10_6 (lg_c lq_10_7 (lg_c lq_10_8 (lg_c lq_10_9 (lg_c lq_10_10 (lg_c lq_1_10 (lg_c lq_10_11 (lg_c lq_7_8 (lg_c lq_5_7 (lg_c lq_5_8 (lg_c lq_5_9 (lg_c lq_2_15 (lg_c lq_2_14 (lg_c lq_2_16 (lg_c lq_2_21 lg_n))))))))))))))))))))))))
theorem lg_wsX2_count_r3 : GoodIn lw_tbl wsX2_count_r3 := (lg_c lq_10_12 (lg_c lq_10_13 (lg_c lq_10_14 lg_n)))
theorem lg_wsX2_count : GoodIn lw_tbl wsX2_count := (lg_c lq_9_5 (goodIn_app (goodIn_app (goodIn_app (goodIn_app (goodIn_app lg_wsX2_count_r1 (goodIn_app lg_wsX2_count_r2 lg_wsX2_count_r3)) lg_wsX20) lg_wsX10) lg_wsX00) lg_v2))
theorem lg_wsX2_first_r1 : GoodIn lw_tbl wsX2_first_r1 := (lg_c lq_2_2 (lg_c lq_2_1 (lg_c lq_7_16 (lg_c lq_7_17 (lg_c lq_7_18 (lg_c lq_2_0 (lg_c lq_7_19 (lg_c lq_2_14 (lg_c lq_2_15 (lg_c lq_2_16 (lg_c lq_2_17 (lg_c lq_2_18 (lg_c lq_2_20 (lg_c lq_2_21 (lg_c lq_2_22 (lg_c lq_7_20 (lg_c lq_7_21 (lg_c lq_7_22 (lg_c lq_1_2 (lg_c lq_7_23 (lg_c lq_2_3 (lg_c lq_2_4 (lg_c lq_8_0 (lg_c lq_8_1 lg_n))))))))))))))))))))))))
theorem lg_wsX2_first_r2 : GoodIn lw_tbl wsX2_first_r2 := (lg_c lq_8_2 (lg_c lq_8_3 (lg_c lq_8_4 (lg_c lq_8_5 (lg_c lq_8_6 (lg_c lq_8_7 (lg_c lq_8_8 (lg_c lq_8_9 (lg_c lq_8_10 (lg_c lq_8_11 (lg_c lq_8_12 (lg_c lq_8_13 (lg_c lq_8_14 (lg_c lq_8_15 (lg_c lq_8_16 (lg_c lq_1_13 (lg_c lq_1_10 (lg_c lq_1_14 (lg_c lq_7_8 (lg_c lq_5_7 (lg_c lq_5_8 (lg_c lq_5_9 (lg_c lq_8_17 (lg_c lq_8_18 lg_n))))))))))))))))))))))))
theorem lg_wsX2_first_r3 : GoodIn lw_tbl wsX2_first_r3 := (lg_c lq_8_19 (lg_c lq_8_20 (lg_c lq_8_21 (lg_c lq_1_9 (lg_c lq_1_11 (lg_c lq_8_22 (lg_c lq_8_23 (lg_c lq_9_0 (lg_c lq_9_1 (lg_c lq_10_19 (lg_c lq_10_20 (lg_c lq_10_21 (lg_c lq_10_22 (lg_c lq_10_23 lg_n))))))))))))))
theorem lg_wsX2_first : GoodIn lw_tbl wsX2_first := (lg_c lq_10_18 (goodIn_app (goodIn_app (goodIn_app lg_wsX2_first_r1 (goodIn_app lg_wsX2_first_r2 lg_wsX2_first_r3)) lg_wsX20) lg_wsX10))
theorem lg_wsX2_holds_r1 : GoodIn lw_tbl wsX2_holds_r1 := (lg_c lq_2_6 (lg_c lq_2_2 (lg_c lq_2_1 (lg_c lq_11_4 (lg_c lq_11_5 (lg_c lq_11_6 (lg_c lq_11_7 (lg_c lq_11_8 (lg_c lq_1_2 (lg_c lq_11_9 (lg_c lq_4_11 (lg_c lq_4_12 (lg_c lq_2_9 (lg_c lq_7_16 (lg_c lq_7_17 (lg_c lq_7_18 (lg_c lq_2_0 (lg_c lq_7_19 (lg_c lq_2_14 (lg_c lq_2_15 (lg_c lq_2_16 (lg_c lq_2_17 (lg_c lq_2_18 (lg_c lq_2_20 lg_n))))))))))))))))))))))))
theorem lg_wsX2_holds_r2 : GoodIn lw_tbl wsX2_holds_r2 := (lg_c lq_2_21 (lg_c lq_2_22 (lg_c lq_9_22 (lg_c lq_9_23 (lg_c lq_10_0 (lg_c lq_10_1 (lg_c lq_10_2 (lg_c lq_10_3 (lg_c lq_10_4 (lg_c lq_10_5 (lg_c lq_10_6 (lg_c lq_10_7 (lg_c lq_10_8 (lg_c lq_10_9 (lg_c lq_10_10 (lg_c lq_1_10 (lg_c lq_10_11 (lg_c lq_7_8 (lg_c lq_5_7 (lg_c lq_5_8 (lg_c lq_5_9 (lg_c lq_7_20 (lg_c lq_7_21 (lg_c lq_7_22 lg_n))))))))))))))))))))))))
theorem lg_wsX2_holds_r3 : GoodIn lw_tbl wsX2_holds_r3 := (lg_c lq_7_23 (lg_c lq_2_3 (lg_c lq_2_4 (lg_c lq_8_0 (lg_c lq_8_1 (lg_c lq_8_2 (lg_c lq_8_3 (lg_c lq_8_4 (lg_c lq_8_5 (lg_c lq_8_6 (lg_c lq_8_7 (lg_c lq_8_8 (lg_c lq_8_9 (lg_c lq_8_10 (lg_c lq_8_11 (lg_c lq_8_12 (lg_c lq_8_13 (lg_c lq_8_14 (lg_c lq_8_15 (lg_c lq_8_16 (lg_c lq_1_13 (lg_c lq_1_14 (lg_c lq_8_17 (lg_c lq_8_18 lg_n))))))))))))))))))))))))
theorem lg_wsX2_holds_r4 : GoodIn lw_tbl wsX2_holds_r4 := (lg_c lq_8_19 (lg_c lq_8_20 (lg_c lq_8_21 (lg_c lq_1_9 (lg_c lq_1_11 (lg_c lq_8_22 (lg_c lq_8_23 (lg_c lq_9_0 (lg_c lq_9_1 lg_n)))))))))
theorem lg_wsX2_holds : GoodIn lw_tbl wsX2_holds := (lg_c lq_11_3 (goodIn_app (goodIn_app (goodIn_app (goodIn_app (goodIn_app lg_wsX2_holds_r1 (goodIn_app lg_wsX2_holds_r2 (goodIn_app lg_wsX2_holds_r3 lg_wsX2_holds_r4))) lg_wsX20) lg_wsX00) lg_wsX10) lg_v2))
theorem lg_wsX2_pass_r1 : GoodIn lw_tbl wsX2_pass_r1 := (lg_c lq_2_1 (lg_c lq_7_13 (lg_c lq_7_14 (lg_c lq_1_2 (lg_c lq_7_15 (lg_c lq_4_13 (lg_c lq_4_14 (lg_c lq_7_20 (lg_c lq_7_21 (lg_c lq_7_22 (lg_c lq_7_23 (lg_c lq_2_3 (lg_c lq_2_4 (lg_c lq_8_0 (lg_c lq_8_1 (lg_c lq_8_2 (lg_c lq_2_0 (lg_c lq_8_3 (lg_c lq_2_22 (lg_c lq_8_4 (lg_c lq_8_5 (lg_c lq_8_6 (lg_c lq_8_7 (lg_c lq_8_8 lg_n))))))))))))))))))))))))
theorem lg_wsX2_pass_r2 : GoodIn lw_tbl wsX2_pass_r2 := (lg_c lq_8_9 (lg_c lq_8_10 (lg_c lq_8_11 (lg_c lq_2_20 (lg_c lq_8_12 (lg_c lq_8_13 (lg_c lq_8_14 (lg_c lq_8_15 (lg_c lq_2_17 (lg_c lq_8_16 (lg_c lq_1_13 (lg_c lq_1_10 (lg_c lq_1_14 (lg_c lq_2_16 (lg_c lq_2_18 (lg_c lq_7_8 (lg_c lq_5_7 (lg_c lq_5_8 (lg_c lq_5_9 (lg_c lq_2_15 (lg_c lq_2_14 (lg_c lq_2_21 (lg_c lq_8_17 (lg_c lq_8_18 lg_n))))))))))))))))))))))))
theorem lg_wsX2_pass_r3 : GoodIn lw_tbl wsX2_pass_r3 := (lg_c lq_8_19 (lg_c lq_8_20 (lg_c lq_8_21 (lg_c lq_1_9 (lg_c lq_1_11 (lg_c lq_8_22 (lg_c lq_8_23 (lg_c lq_9_0 (lg_c lq_9_1 lg_n)))))))))
theorem lg_wsX2_pass : GoodIn lw_tbl wsX2_pass := (lg_c lq_11_13 (goodIn_app (goodIn_app (goodIn_app (goodIn_app lg_wsX2_pass_r1 (goodIn_app lg_wsX2_pass_r2 lg_wsX2_pass_r3)) lg_wsX20) lg_wsX10) lg_v0))
theorem lg_wsX3_pass_ : GoodIn lw_tbl wsX3_pass_ := (lg_c lq_11_17 (goodIn_app (lg_c lq_3_21 (lg_c lq_11_18 (lg_c lq_11_19 (lg_c lq_11_20 (lg_c lq_11_21 (lg_c lq_3_12 (lg_c lq_11_22 (lg_c lq_3_22 (lg_c lq_1_4 (lg_c lq_3_19 (lg_c lq_5_14 (lg_c lq_11_23 (lg_c lq_1_9 (lg_c lq_1_10 (lg_c lq_1_11 (lg_c lq_12_0 (lg_c lq_1_13 (lg_c lq_1_14 (lg_c lq_12_1 (lg_c lq_5_11 (lg_c lq_5_12 (lg_c lq_5_13 lg_n)))))))))))))))))))))) lg_wsX30))
theorem lg_wsX2_sounds_r1 : GoodIn lw_tbl wsX2_sounds_r1 := (lg_c lq_2_1 (lg_c lq_2_6 (lg_c lq_11_6 (lg_c lq_11_7 (lg_c lq_11_8 (lg_c lq_1_2 (lg_c lq_11_9 (lg_c lq_4_11 (lg_c lq_4_12 (lg_c lq_2_9 (lg_c lq_9_22 (lg_c lq_9_23 (lg_c lq_10_0 (lg_c lq_2_0 (lg_c lq_10_1 (lg_c lq_10_2 (lg_c lq_10_3 (lg_c lq_10_4 (lg_c lq_10_5 (lg_c lq_10_6 (lg_c lq_10_7 (lg_c lq_2_20 (lg_c lq_10_8 (lg_c lq_10_9 lg_n))))))))))))))))))))))))
theorem lg_wsX2_sounds_r2 : GoodIn lw_tbl wsX2_sounds_r2 := (lg_c lq_10_10 (lg_c lq_1_10 (lg_c lq_10_11 (lg_c lq_7_8 (lg_c lq_5_7 (lg_c lq_5_8 (lg_c lq_5_9 (lg_c lq_2_15 (lg_c lq_2_14 (lg_c lq_2_16 (lg_c lq_2_21 lg_n)))))))))))
theorem lg_wsX2_sounds : GoodIn lw_tbl wsX2_sounds := (lg_c lq_12_5 (goodIn_app (goodIn_app (goodIn_app (goodIn_app (goodIn_app lg_wsX2_sounds_r1 lg_wsX2_sounds_r2) lg_wsX20) lg_wsX00) lg_wsX10) lg_v2))
theorem lg_wsX2_off_r1 : GoodIn lw_tbl wsX2_off_r1 := (lg_c lq_2_1 (lg_c lq_2_6 (lg_c lq_11_6 (lg_c lq_11_7 (lg_c lq_11_8 (lg_c lq_1_2 (lg_c lq_11_9 (lg_c lq_4_11 (lg_c lq_4_12 (lg_c lq_2_9 (lg_c lq_12_10 (lg_c lq_12_11 (lg_c lq_12_12 (lg_c lq_2_0 (lg_c lq_12_13 (lg_c lq_10_2 (lg_c lq_10_7 (lg_c lq_10_8 (lg_c lq_10_9 (lg_c lq_10_10 (lg_c lq_1_10 (lg_c lq_10_11 (lg_c lq_7_8 (lg_c lq_5_7 lg_n))))))))))))))))))))))))
theorem lg_wsX2_off_r2 : GoodIn lw_tbl wsX2_off_r2 := (lg_c lq_5_8 (lg_c lq_5_9 (lg_c lq_2_20 (lg_c lq_2_15 (lg_c lq_2_14 (lg_c lq_2_16 (lg_c lq_2_21 lg_n)))))))
theorem lg_wsX2_off : GoodIn lw_tbl wsX2_off := (lg_c lq_12_9 (goodIn_app (goodIn_app (goodIn_app (goodIn_app (goodIn_app lg_wsX2_off_r1 lg_wsX2_off_r2) lg_wsX20) lg_wsX00) lg_wsX10) lg_v2))
theorem lg_wsX2_steps_r1 : GoodIn lw_tbl wsX2_steps_r1 := (lg_c lq_2_1 (lg_c lq_2_6 (lg_c lq_11_6 (lg_c lq_11_7 (lg_c lq_11_8 (lg_c lq_1_2 (lg_c lq_11_9 (lg_c lq_4_11 (lg_c lq_4_12 (lg_c lq_2_9 (lg_c lq_12_18 (lg_c lq_12_19 (lg_c lq_12_20 (lg_c lq_11_5 (lg_c lq_11_4 (lg_c lq_12_21 (lg_c lq_10_10 (lg_c lq_1_10 (lg_c lq_10_11 (lg_c lq_12_22 (lg_c lq_1_9 (lg_c lq_1_11 (lg_c lq_12_23 (lg_c lq_10_4 lg_n))))))))))))))))))))))))
theorem lg_wsX2_steps_r2 : GoodIn lw_tbl wsX2_steps_r2 := (lg_c lq_10_5 (lg_c lq_2_0 (lg_c lq_10_6 (lg_c lq_10_7 (lg_c lq_2_20 (lg_c lq_10_8 (lg_c lq_10_9 (lg_c lq_7_8 (lg_c lq_5_7 (lg_c lq_5_8 (lg_c lq_5_9 (lg_c lq_2_15 (lg_c lq_2_14 (lg_c lq_2_16 (lg_c lq_2_21 (lg_c lq_6_1 (lg_c lq_6_2 (lg_c lq_6_3 (lg_c lq_6_4 lg_n)))))))))))))))))))
theorem lg_wsX2_steps : GoodIn lw_tbl wsX2_steps := (lg_c lq_12_17 (goodIn_app (goodIn_app (goodIn_app (goodIn_app (goodIn_app lg_wsX2_steps_r1 lg_wsX2_steps_r2) lg_wsX20) lg_wsX00) lg_wsX10) lg_v2))
theorem lg_wsX3_isSame_r1 : GoodIn lw_tbl wsX3_isSame_r1 := (lg_c lq_1_4 (lg_c lq_3_19 (lg_c lq_3_20 (lg_c lq_11_18 (lg_c lq_5_14 (lg_c lq_13_4 (lg_c lq_7_1 (lg_c lq_7_2 (lg_c lq_1_2 (lg_c lq_7_3 (lg_c lq_4_11 (lg_c lq_4_12 (lg_c lq_2_1 (lg_c lq_4_23 (lg_c lq_5_0 (lg_c lq_5_1 (lg_c lq_7_4 (lg_c lq_7_5 (lg_c lq_7_6 (lg_c lq_2_0 (lg_c lq_7_7 (lg_c lq_2_14 (lg_c lq_2_15 (lg_c lq_2_16 lg_n))))))))))))))))))))))))
theorem lg_wsX3_isSame_r2 : GoodIn lw_tbl wsX3_isSame_r2 := (lg_c lq_2_17 (lg_c lq_2_20 (lg_c lq_2_18 (lg_c lq_7_8 (lg_c lq_5_7 (lg_c lq_5_8 (lg_c lq_5_9 (lg_c lq_2_21 (lg_c lq_12_1 (lg_c lq_5_11 (lg_c lq_5_12 (lg_c lq_3_12 (lg_c lq_5_13 (lg_c lq_13_5 (lg_c lq_13_6 (lg_c lq_13_7 (lg_c lq_13_8 (lg_c lq_13_9 (lg_c lq_12_7 (lg_c lq_12_8 (lg_c lq_12_9 (lg_c lq_2_6 (lg_c lq_11_6 (lg_c lq_11_7 lg_n))))))))))))))))))))))))
theorem lg_wsX3_isSame_r3 : GoodIn lw_tbl wsX3_isSame_r3 := (lg_c lq_11_8 (lg_c lq_11_9 (lg_c lq_2_9 (lg_c lq_12_10 (lg_c lq_12_11 (lg_c lq_12_12 (lg_c lq_12_13 (lg_c lq_10_2 (lg_c lq_10_7 (lg_c lq_10_8 (lg_c lq_10_9 (lg_c lq_10_10 (lg_c lq_1_10 (lg_c lq_10_11 (lg_c lq_13_10 (lg_c lq_13_11 (lg_c lq_13_12 (lg_c lq_13_13 (lg_c lq_13_14 (lg_c lq_12_3 (lg_c lq_12_4 (lg_c lq_12_5 (lg_c lq_9_22 (lg_c lq_9_23 lg_n))))))))))))))))))))))))
theorem lg_wsX3_isSame_r4 : GoodIn lw_tbl wsX3_isSame_r4 := (lg_c lq_10_0 (lg_c lq_10_1 (lg_c lq_10_3 (lg_c lq_10_4 (lg_c lq_10_5 (lg_c lq_10_6 (lg_c lq_13_15 (lg_c lq_9_3 (lg_c lq_9_4 (lg_c lq_9_5 (lg_c lq_9_6 (lg_c lq_9_7 (lg_c lq_9_8 (lg_c lq_9_9 (lg_c lq_9_10 (lg_c lq_9_11 (lg_c lq_5_21 (lg_c lq_9_12 (lg_c lq_9_13 (lg_c lq_9_14 (lg_c lq_9_15 (lg_c lq_9_16 (lg_c lq_9_17 (lg_c lq_9_18 lg_n))))))))))))))))))))))))
theorem lg_wsX3_isSame_r5 : GoodIn lw_tbl wsX3_isSame_r5 := (lg_c lq_9_19 (lg_c lq_9_20 (lg_c lq_9_21 (lg_c lq_10_12 (lg_c lq_10_13 (lg_c lq_10_14 (lg_c lq_13_16 (lg_c lq_13_17 (lg_c lq_13_18 (lg_c lq_13_19 (lg_c lq_13_20 (lg_c lq_13_21 (lg_c lq_13_22 (lg_c lq_13_23 lg_n))))))))))))))
theorem lg_wsX3_isSame : GoodIn lw_tbl wsX3_isSame := (lg_c lq_13_3 (goodIn_app (goodIn_app (goodIn_app (goodIn_app (goodIn_app (goodIn_app lg_wsX3_isSame_r1 (goodIn_app lg_wsX3_isSame_r2 (goodIn_app lg_wsX3_isSame_r3 (goodIn_app lg_wsX3_isSame_r4 lg_wsX3_isSame_r5)))) lg_wsX30) lg_wsX20) lg_wsX10) lg_wsX00) lg_v2))
theorem gW_L_build : GoodIn lw_tbl (va_wsS RL 67 yL_build wsL_build) := goodIn_app (lg_c lq_3_6 (lg_c lq_3_7 (lg_c lq_3_8 lg_n))) lg_wsL_build
theorem gW_L_cell : GoodIn lw_tbl (va_wsS RL 58 yL_cell wsL_cell) := goodIn_app (lg_c lq_3_23 (lg_c lq_4_0 (lg_c lq_3_8 lg_n))) lg_wsL_cell
theorem gW_L_act : GoodIn lw_tbl (va_wsS RL 62 yL_act wsL_act) := goodIn_app (lg_c lq_6_5 (lg_c lq_6_6 (lg_c lq_3_8 lg_n))) lg_wsL_act
theorem gW_X2_string : GoodIn lw_tbl (wsV RL 72 RX2 yX2_string wsX2_string) := goodIn_app (lg_c lq_7_0 (lg_c lq_7_1 (lg_c lq_7_2 (lg_c lq_1_2 lg_n)))) lg_wsX2_string
theorem gW_X2_foresee : GoodIn lw_tbl (wsV RL 75 RX2 yX2_foresee wsX2_foresee) := goodIn_app (lg_c lq_7_9 (lg_c lq_7_10 (lg_c lq_7_11 (lg_c lq_1_2 lg_n)))) lg_wsX2_foresee
theorem gW_X2_count : GoodIn lw_tbl (wsV RL 82 RX2 yX2_count wsX2_count) := goodIn_app (lg_c lq_9_2 (lg_c lq_9_3 (lg_c lq_9_4 (lg_c lq_1_2 lg_n)))) lg_wsX2_count
theorem gW_X2_first : GoodIn lw_tbl (wsV RL 85 RX2 yX2_first wsX2_first) := goodIn_app (lg_c lq_10_15 (lg_c lq_10_16 (lg_c lq_10_17 (lg_c lq_1_2 lg_n)))) lg_wsX2_first
theorem gW_X2_holds : GoodIn lw_tbl (wsV RL 89 RX2 yX2_holds wsX2_holds) := goodIn_app (lg_c lq_11_0 (lg_c lq_11_1 (lg_c lq_11_2 (lg_c lq_1_2 lg_n)))) lg_wsX2_holds
theorem gW_X2_pass : GoodIn lw_tbl (wsV RL 92 RX2 yX2_pass wsX2_pass) := goodIn_app (lg_c lq_11_10 (lg_c lq_11_11 (lg_c lq_11_12 (lg_c lq_1_2 lg_n)))) lg_wsX2_pass
theorem gW_X3_pass_ : GoodIn lw_tbl (wsV RL 95 RX3 yX3_pass_ wsX3_pass_) := goodIn_app (lg_c lq_11_14 (lg_c lq_11_15 (lg_c lq_11_16 (lg_c lq_3_12 lg_n)))) lg_wsX3_pass_
theorem gW_X2_sounds : GoodIn lw_tbl (wsV RL 100 RX2 yX2_sounds wsX2_sounds) := goodIn_app (lg_c lq_12_2 (lg_c lq_12_3 (lg_c lq_12_4 (lg_c lq_1_2 lg_n)))) lg_wsX2_sounds
theorem gW_X2_off : GoodIn lw_tbl (wsV RL 104 RX2 yX2_off wsX2_off) := goodIn_app (lg_c lq_12_6 (lg_c lq_12_7 (lg_c lq_12_8 (lg_c lq_1_2 lg_n)))) lg_wsX2_off
theorem gW_X2_steps : GoodIn lw_tbl (wsV RL 107 RX2 yX2_steps wsX2_steps) := goodIn_app (lg_c lq_12_14 (lg_c lq_12_15 (lg_c lq_12_16 (lg_c lq_1_2 lg_n)))) lg_wsX2_steps
theorem gW_X3_isSame : GoodIn lw_tbl (wsV RL 110 RX3 yX3_isSame wsX3_isSame) := goodIn_app (lg_c lq_13_0 (lg_c lq_13_1 (lg_c lq_13_2 (lg_c lq_3_12 lg_n)))) lg_wsX3_isSame
