/-! the words of each method that the law calls lie in lw_tbl -/
def lgd (w : Cond) : Prop := w ∈ lw_tbl ∧ goodWord w = true
theorem lg_c {w : Cond} {ws : List Cond} (h : lgd w) (t : GoodIn lw_tbl ws) : GoodIn lw_tbl (w :: ws) := List.forall_mem_cons.mpr ⟨⟨h.1, good_of_word h.2⟩, t⟩
theorem lg_n : GoodIn lw_tbl [] := fun _ h => absurd h List.not_mem_nil
theorem lq_1_0 : lgd (Cond.classLink RL 8 RX2) := ⟨wsL_law0_r1_in _ (List.mem_of_getElem? (i := 0) rfl), by decide +kernel⟩
theorem lq_1_1 : lgd (Cond.instantiable RX2 6) := ⟨wsL_law0_r1_in _ (List.mem_of_getElem? (i := 1) rfl), by decide +kernel⟩
theorem lq_1_2 : lgd (Cond.initialized RX2) := ⟨wsL_law0_r1_in _ (List.mem_of_getElem? (i := 2) rfl), by decide +kernel⟩
theorem lq_1_3 : lgd (Cond.classLink RL 63 RX3) := ⟨wsL_law0_r1_in _ (List.mem_of_getElem? (i := 3) rfl), by decide +kernel⟩
theorem lq_1_4 : lgd (Cond.instantiable RX3 8) := ⟨wsL_law0_r1_in _ (List.mem_of_getElem? (i := 4) rfl), by decide +kernel⟩
theorem lq_1_5 : lgd (Cond.initialized RX3) := ⟨wsL_law0_r1_in _ (List.mem_of_getElem? (i := 5) rfl), by decide +kernel⟩
theorem lq_1_6 : lgd (Cond.arrayClass .long) := ⟨wsL_law0_r1_in _ (List.mem_of_getElem? (i := 6) rfl), by decide +kernel⟩
theorem lq_1_7 : lgd (Cond.methodLink RL 62 yX2_init) := ⟨wsL_law0_r1_in _ (List.mem_of_getElem? (i := 7) rfl), by decide +kernel⟩
theorem lq_1_8 : lgd (Cond.instanceMethod yX2_init) := ⟨wsL_law0_r1_in _ (List.mem_of_getElem? (i := 8) rfl), by decide +kernel⟩
theorem lq_1_9 : lgd (Cond.code yX2_init cX2_init 2 none) := ⟨wsL_law0_r1_in _ (List.mem_of_getElem? (i := 9) rfl), by decide +kernel⟩
theorem lq_1_10 : lgd (Cond.methodLink RX2 1 objectInit) := ⟨wsL_law0_r1_in _ (List.mem_of_getElem? (i := 10) rfl), by decide +kernel⟩
theorem lq_1_11 : lgd (Cond.instanceMethod objectInit) := ⟨wsL_law0_r1_in _ (List.mem_of_getElem? (i := 11) rfl), by decide +kernel⟩
theorem lq_1_12 : lgd (Cond.code objectInit ⟨#[0xb1]⟩ 1 none) := ⟨wsL_law0_r1_in _ (List.mem_of_getElem? (i := 12) rfl), by decide +kernel⟩
theorem lq_1_13 : lgd (Cond.classLink RX2 7 RX1) := ⟨wsL_law0_r1_in _ (List.mem_of_getElem? (i := 13) rfl), by decide +kernel⟩
theorem lq_1_14 : lgd (Cond.instantiable RX1 8) := ⟨wsL_law0_r1_in _ (List.mem_of_getElem? (i := 14) rfl), by decide +kernel⟩
theorem lq_1_15 : lgd (Cond.initialized RX1) := ⟨wsL_law0_r1_in _ (List.mem_of_getElem? (i := 15) rfl), by decide +kernel⟩
theorem lq_1_16 : lgd (Cond.fieldLink RX2 10 "WedgeHarps" "now" "LWedgeHarps$Harp;") := ⟨wsL_law0_r1_in _ (List.mem_of_getElem? (i := 16) rfl), by decide +kernel⟩
theorem lq_1_17 : lgd (Cond.fieldLink RX2 16 "WedgeHarps" "later" "LWedgeHarps$Harp;") := ⟨wsL_law0_r1_in _ (List.mem_of_getElem? (i := 17) rfl), by decide +kernel⟩
theorem lq_1_18 : lgd (Cond.arrayClass .int) := ⟨wsL_law0_r1_in _ (List.mem_of_getElem? (i := 18) rfl), by decide +kernel⟩
theorem lq_1_19 : lgd (Cond.fieldLink RX2 19 "WedgeHarps" "windTable" "[I") := ⟨wsL_law0_r1_in _ (List.mem_of_getElem? (i := 19) rfl), by decide +kernel⟩
theorem lq_1_20 : lgd (Cond.fieldLink RX2 23 "WedgeHarps" "dampTable" "[I") := ⟨wsL_law0_r1_in _ (List.mem_of_getElem? (i := 20) rfl), by decide +kernel⟩
theorem lq_1_21 : lgd (Cond.classLink RX2 26 RX0) := ⟨wsL_law0_r1_in _ (List.mem_of_getElem? (i := 21) rfl), by decide +kernel⟩
theorem lq_1_22 : lgd (Cond.fieldLink RX2 28 "WedgeHarps" "chords" "[LWedgeHarps$Chord;") := ⟨wsL_law0_r1_in _ (List.mem_of_getElem? (i := 22) rfl), by decide +kernel⟩
theorem lq_1_23 : lgd (Cond.instantiable RX0 3) := ⟨wsL_law0_r1_in _ (List.mem_of_getElem? (i := 23) rfl), by decide +kernel⟩
theorem lq_2_0 : lgd (Cond.initialized RX0) := ⟨wsL_law0_r2_in _ (List.mem_of_getElem? (i := 0) rfl), by decide +kernel⟩
theorem lq_2_1 : lgd (Cond.fieldLink RX2 33 "WedgeHarps" "told" "I") := ⟨wsL_law0_r2_in _ (List.mem_of_getElem? (i := 1) rfl), by decide +kernel⟩
theorem lq_2_2 : lgd (Cond.methodLink RX2 9 yX1_init) := ⟨wsL_law0_r2_in _ (List.mem_of_getElem? (i := 2) rfl), by decide +kernel⟩
theorem lq_2_3 : lgd (Cond.instanceMethod yX1_init) := ⟨wsL_law0_r2_in _ (List.mem_of_getElem? (i := 3) rfl), by decide +kernel⟩
theorem lq_2_4 : lgd (Cond.code yX1_init cX1_init 2 none) := ⟨wsL_law0_r2_in _ (List.mem_of_getElem? (i := 4) rfl), by decide +kernel⟩
theorem lq_2_5 : lgd (Cond.methodLink RX1 3 objectInit) := ⟨wsL_law0_r2_in _ (List.mem_of_getElem? (i := 5) rfl), by decide +kernel⟩
theorem lq_2_6 : lgd (Cond.fieldLink RX1 9 "WedgeHarps$Harp" "base" "[I") := ⟨wsL_law0_r2_in _ (List.mem_of_getElem? (i := 6) rfl), by decide +kernel⟩
theorem lq_2_7 : lgd (Cond.fieldLink RX1 15 "WedgeHarps$Harp" "wedge" "[I") := ⟨wsL_law0_r2_in _ (List.mem_of_getElem? (i := 7) rfl), by decide +kernel⟩
theorem lq_2_8 : lgd (Cond.fieldLink RX1 18 "WedgeHarps$Harp" "drift" "[I") := ⟨wsL_law0_r2_in _ (List.mem_of_getElem? (i := 8) rfl), by decide +kernel⟩
theorem lq_2_9 : lgd (Cond.fieldLink RX1 21 "WedgeHarps$Harp" "strain" "[I") := ⟨wsL_law0_r2_in _ (List.mem_of_getElem? (i := 9) rfl), by decide +kernel⟩
theorem lq_2_10 : lgd (Cond.fieldLink RX1 24 "WedgeHarps$Harp" "breaks" "[I") := ⟨wsL_law0_r2_in _ (List.mem_of_getElem? (i := 10) rfl), by decide +kernel⟩
theorem lq_2_11 : lgd (Cond.arrayClass .boolean) := ⟨wsL_law0_r2_in _ (List.mem_of_getElem? (i := 11) rfl), by decide +kernel⟩
theorem lq_2_12 : lgd (Cond.fieldLink RX1 27 "WedgeHarps$Harp" "whole" "[Z") := ⟨wsL_law0_r2_in _ (List.mem_of_getElem? (i := 12) rfl), by decide +kernel⟩
theorem lq_2_13 : lgd (Cond.fieldLink RX1 31 "WedgeHarps$Harp" "swelling" "I") := ⟨wsL_law0_r2_in _ (List.mem_of_getElem? (i := 13) rfl), by decide +kernel⟩
theorem lq_2_14 : lgd (Cond.fieldLink RX1 35 "WedgeHarps$Harp" "hour" "I") := ⟨wsL_law0_r2_in _ (List.mem_of_getElem? (i := 14) rfl), by decide +kernel⟩
theorem lq_2_15 : lgd (Cond.methodLink RX2 32 yX0_init) := ⟨wsL_law0_r2_in _ (List.mem_of_getElem? (i := 15) rfl), by decide +kernel⟩
theorem lq_2_16 : lgd (Cond.instanceMethod yX0_init) := ⟨wsL_law0_r2_in _ (List.mem_of_getElem? (i := 16) rfl), by decide +kernel⟩
theorem lq_2_17 : lgd (Cond.code yX0_init cX0_init 1 none) := ⟨wsL_law0_r2_in _ (List.mem_of_getElem? (i := 17) rfl), by decide +kernel⟩
theorem lq_2_18 : lgd (Cond.methodLink RX0 3 objectInit) := ⟨wsL_law0_r2_in _ (List.mem_of_getElem? (i := 18) rfl), by decide +kernel⟩
theorem lq_2_19 : lgd (Cond.fieldLink RX0 9 "WedgeHarps$Chord" "tones" "[I") := ⟨wsL_law0_r2_in _ (List.mem_of_getElem? (i := 19) rfl), by decide +kernel⟩
theorem lq_2_20 : lgd (Cond.fieldLink RX0 15 "WedgeHarps$Chord" "lowest" "I") := ⟨wsL_law0_r2_in _ (List.mem_of_getElem? (i := 20) rfl), by decide +kernel⟩
theorem lq_2_21 : lgd (Cond.fieldLink RX0 19 "WedgeHarps$Chord" "size" "I") := ⟨wsL_law0_r2_in _ (List.mem_of_getElem? (i := 21) rfl), by decide +kernel⟩
theorem lq_2_22 : lgd (Cond.methodLink RL 65 yX3_init) := ⟨wsL_law0_r2_in _ (List.mem_of_getElem? (i := 22) rfl), by decide +kernel⟩
theorem lq_2_23 : lgd (Cond.instanceMethod yX3_init) := ⟨wsL_law0_r2_in _ (List.mem_of_getElem? (i := 23) rfl), by decide +kernel⟩
theorem lq_3_0 : lgd (Cond.code yX3_init cX3_init 2 none) := ⟨wsL_law0_r3_in _ (List.mem_of_getElem? (i := 0) rfl), by decide +kernel⟩
theorem lq_3_1 : lgd (Cond.methodLink RX3 1 objectInit) := ⟨wsL_law0_r3_in _ (List.mem_of_getElem? (i := 1) rfl), by decide +kernel⟩
theorem lq_3_2 : lgd (Cond.fieldLink RX3 9 "WedgeHarpsModel" "harp" "[I") := ⟨wsL_law0_r3_in _ (List.mem_of_getElem? (i := 2) rfl), by decide +kernel⟩
theorem lq_3_3 : lgd (Cond.fieldLink RX3 13 "WedgeHarpsModel" "told" "[I") := ⟨wsL_law0_r3_in _ (List.mem_of_getElem? (i := 3) rfl), by decide +kernel⟩
theorem lq_3_4 : lgd (Cond.fieldLink RX3 16 "WedgeHarpsModel" "winds" "[I") := ⟨wsL_law0_r3_in _ (List.mem_of_getElem? (i := 4) rfl), by decide +kernel⟩
theorem lq_3_5 : lgd (Cond.fieldLink RX3 19 "WedgeHarpsModel" "damps" "[I") := ⟨wsL_law0_r3_in _ (List.mem_of_getElem? (i := 5) rfl), by decide +kernel⟩
theorem lq_3_6 : lgd (Cond.fieldLink RX3 22 "WedgeHarpsModel" "numbers" "[I") := ⟨wsL_law0_r3_in _ (List.mem_of_getElem? (i := 6) rfl), by decide +kernel⟩
theorem lq_3_7 : lgd (Cond.fieldLink RX3 25 "WedgeHarpsModel" "pushed" "[I") := ⟨wsL_law0_r3_in _ (List.mem_of_getElem? (i := 7) rfl), by decide +kernel⟩
theorem lq_3_8 : lgd (Cond.methodLink RX3 28 yX3_put) := ⟨wsL_law0_r3_in _ (List.mem_of_getElem? (i := 8) rfl), by decide +kernel⟩
theorem lq_3_9 : lgd (Cond.instanceMethod yX3_put) := ⟨wsL_law0_r3_in _ (List.mem_of_getElem? (i := 9) rfl), by decide +kernel⟩
theorem lq_3_10 : lgd (Cond.selects RX3 yX3_put yX3_put) := ⟨wsL_law0_r3_in _ (List.mem_of_getElem? (i := 10) rfl), by decide +kernel⟩
theorem lq_3_11 : lgd (Cond.code yX3_put cX3_put 4 none) := ⟨wsL_law0_r3_in _ (List.mem_of_getElem? (i := 11) rfl), by decide +kernel⟩
theorem lq_3_12 : lgd (Cond.methodLink RL 66 yL_push) := ⟨wsL_law0_r3_in _ (List.mem_of_getElem? (i := 12) rfl), by decide +kernel⟩
theorem lq_3_13 : lgd (Cond.static yL_push) := ⟨wsL_law0_r3_in _ (List.mem_of_getElem? (i := 13) rfl), by decide +kernel⟩
theorem lq_3_14 : lgd (Cond.initialized RL) := ⟨wsL_law0_r3_in _ (List.mem_of_getElem? (i := 14) rfl), by decide +kernel⟩
theorem lq_3_15 : lgd (Cond.codeWith yL_push cL_push 5 (some .int) [(0, 10, 13, 13), (0, 10, 17, 15), (0, 10, 21, 17)]) := ⟨wsL_law0_r3_in _ (List.mem_of_getElem? (i := 15) rfl), by decide +kernel⟩
theorem lq_3_16 : lgd (Cond.classLink RL 13 "java/lang/IndexOutOfBoundsException") := ⟨wsL_law0_r3_in _ (List.mem_of_getElem? (i := 16) rfl), by decide +kernel⟩
theorem lq_3_17 : lgd (Cond.classLink RL 15 "java/lang/IllegalArgumentException") := ⟨wsL_law0_r3_in _ (List.mem_of_getElem? (i := 17) rfl), by decide +kernel⟩
theorem lq_3_18 : lgd (Cond.classLink RL 17 "java/lang/IllegalStateException") := ⟨wsL_law0_r3_in _ (List.mem_of_getElem? (i := 18) rfl), by decide +kernel⟩
theorem lq_3_19 : lgd (Cond.methodLink RL 7 yX2_push) := ⟨wsL_law0_r3_in _ (List.mem_of_getElem? (i := 19) rfl), by decide +kernel⟩
theorem lq_3_20 : lgd (Cond.instanceMethod yX2_push) := ⟨wsL_law0_r3_in _ (List.mem_of_getElem? (i := 20) rfl), by decide +kernel⟩
theorem lq_3_21 : lgd (Cond.selects RX2 yX2_push yX2_push) := ⟨wsL_law0_r3_in _ (List.mem_of_getElem? (i := 21) rfl), by decide +kernel⟩
theorem lq_3_22 : lgd (Cond.code yX2_push cX2_push 3 (some .int)) := ⟨wsL_law0_r3_in _ (List.mem_of_getElem? (i := 22) rfl), by decide +kernel⟩
theorem lq_3_23 : lgd (Cond.classLink RX2 44 "java/lang/IllegalArgumentException") := ⟨wsL_law0_r3_in _ (List.mem_of_getElem? (i := 23) rfl), by decide +kernel⟩
theorem lq_4_0 : lgd (Cond.initialized "java/lang/IllegalArgumentException") := ⟨wsL_law0_r4_in _ (List.mem_of_getElem? (i := 0) rfl), by decide +kernel⟩
theorem lq_4_1 : lgd (Cond.classLink RX2 55 "java/lang/IllegalStateException") := ⟨wsL_law0_r4_in _ (List.mem_of_getElem? (i := 1) rfl), by decide +kernel⟩
theorem lq_4_2 : lgd (Cond.initialized "java/lang/IllegalStateException") := ⟨wsL_law0_r4_in _ (List.mem_of_getElem? (i := 2) rfl), by decide +kernel⟩
theorem lq_4_3 : lgd (Cond.fieldLink RX2 60 "WedgeHarps$Harp" "wedge" "[I") := ⟨wsL_law0_r4_in _ (List.mem_of_getElem? (i := 3) rfl), by decide +kernel⟩
theorem lq_4_4 : lgd (Cond.methodLink RX2 37 yX2_checkString) := ⟨wsL_law0_r4_in _ (List.mem_of_getElem? (i := 4) rfl), by decide +kernel⟩
theorem lq_4_5 : lgd (Cond.static yX2_checkString) := ⟨wsL_law0_r4_in _ (List.mem_of_getElem? (i := 5) rfl), by decide +kernel⟩
theorem lq_4_6 : lgd (Cond.code yX2_checkString cX2_checkString 1 none) := ⟨wsL_law0_r4_in _ (List.mem_of_getElem? (i := 6) rfl), by decide +kernel⟩
theorem lq_4_7 : lgd (Cond.classLink RX2 73 "java/lang/IndexOutOfBoundsException") := ⟨wsL_law0_r4_in _ (List.mem_of_getElem? (i := 7) rfl), by decide +kernel⟩
theorem lq_4_8 : lgd (Cond.initialized "java/lang/IndexOutOfBoundsException") := ⟨wsL_law0_r4_in _ (List.mem_of_getElem? (i := 8) rfl), by decide +kernel⟩
theorem lq_4_9 : lgd (Cond.methodLink RX2 41 yX2_checkWedgeSteps) := ⟨wsL_law0_r4_in _ (List.mem_of_getElem? (i := 9) rfl), by decide +kernel⟩
theorem lq_4_10 : lgd (Cond.static yX2_checkWedgeSteps) := ⟨wsL_law0_r4_in _ (List.mem_of_getElem? (i := 10) rfl), by decide +kernel⟩
theorem lq_4_11 : lgd (Cond.code yX2_checkWedgeSteps cX2_checkWedgeSteps 1 none) := ⟨wsL_law0_r4_in _ (List.mem_of_getElem? (i := 11) rfl), by decide +kernel⟩
theorem lq_4_12 : lgd (Cond.methodLink RX2 51 yX1_takesPush) := ⟨wsL_law0_r4_in _ (List.mem_of_getElem? (i := 12) rfl), by decide +kernel⟩
theorem lq_4_13 : lgd (Cond.instanceMethod yX1_takesPush) := ⟨wsL_law0_r4_in _ (List.mem_of_getElem? (i := 13) rfl), by decide +kernel⟩
theorem lq_4_14 : lgd (Cond.selects RX1 yX1_takesPush yX1_takesPush) := ⟨wsL_law0_r4_in _ (List.mem_of_getElem? (i := 14) rfl), by decide +kernel⟩
theorem lq_4_15 : lgd (Cond.code yX1_takesPush cX1_takesPush 4 (some .boolean)) := ⟨wsL_law0_r4_in _ (List.mem_of_getElem? (i := 15) rfl), by decide +kernel⟩
theorem lq_4_16 : lgd (Cond.methodLink RX2 63 yX1_toneOf) := ⟨wsL_law0_r4_in _ (List.mem_of_getElem? (i := 16) rfl), by decide +kernel⟩
theorem lq_4_17 : lgd (Cond.instanceMethod yX1_toneOf) := ⟨wsL_law0_r4_in _ (List.mem_of_getElem? (i := 17) rfl), by decide +kernel⟩
theorem lq_4_18 : lgd (Cond.selects RX1 yX1_toneOf yX1_toneOf) := ⟨wsL_law0_r4_in _ (List.mem_of_getElem? (i := 18) rfl), by decide +kernel⟩
theorem lq_4_19 : lgd (Cond.code yX1_toneOf cX1_toneOf 3 (some .int)) := ⟨wsL_law0_r4_in _ (List.mem_of_getElem? (i := 19) rfl), by decide +kernel⟩
theorem lq_4_20 : lgd (Cond.methodLink RL 71 yX3_push) := ⟨wsL_law0_r4_in _ (List.mem_of_getElem? (i := 20) rfl), by decide +kernel⟩
theorem lq_4_21 : lgd (Cond.instanceMethod yX3_push) := ⟨wsL_law0_r4_in _ (List.mem_of_getElem? (i := 21) rfl), by decide +kernel⟩
theorem lq_4_22 : lgd (Cond.selects RX3 yX3_push yX3_push) := ⟨wsL_law0_r4_in _ (List.mem_of_getElem? (i := 22) rfl), by decide +kernel⟩
theorem lq_4_23 : lgd (Cond.code yX3_push cX3_push 3 (some .int)) := ⟨wsL_law0_r4_in _ (List.mem_of_getElem? (i := 23) rfl), by decide +kernel⟩
theorem lq_5_0 : lgd (Cond.fieldLink RX3 32 "WedgeHarpsModel" "thrown" "I") := ⟨wsL_law0_r5_in _ (List.mem_of_getElem? (i := 0) rfl), by decide +kernel⟩
theorem lq_5_1 : lgd (Cond.methodLink RX3 40 yX3_isString) := ⟨wsL_law0_r5_in _ (List.mem_of_getElem? (i := 1) rfl), by decide +kernel⟩
theorem lq_5_2 : lgd (Cond.static yX3_isString) := ⟨wsL_law0_r5_in _ (List.mem_of_getElem? (i := 2) rfl), by decide +kernel⟩
theorem lq_5_3 : lgd (Cond.code yX3_isString cX3_isString 1 (some .boolean)) := ⟨wsL_law0_r5_in _ (List.mem_of_getElem? (i := 3) rfl), by decide +kernel⟩
theorem lq_5_4 : lgd (Cond.methodLink RX3 36 yX3_isIn) := ⟨wsL_law0_r5_in _ (List.mem_of_getElem? (i := 4) rfl), by decide +kernel⟩
theorem lq_5_5 : lgd (Cond.static yX3_isIn) := ⟨wsL_law0_r5_in _ (List.mem_of_getElem? (i := 5) rfl), by decide +kernel⟩
theorem lq_5_6 : lgd (Cond.code yX3_isIn cX3_isIn 3 (some .boolean)) := ⟨wsL_law0_r5_in _ (List.mem_of_getElem? (i := 6) rfl), by decide +kernel⟩
theorem lq_5_7 : lgd (Cond.methodLink RX3 52 yX3_fail) := ⟨wsL_law0_r5_in _ (List.mem_of_getElem? (i := 7) rfl), by decide +kernel⟩
theorem lq_5_8 : lgd (Cond.instanceMethod yX3_fail) := ⟨wsL_law0_r5_in _ (List.mem_of_getElem? (i := 8) rfl), by decide +kernel⟩
theorem lq_5_9 : lgd (Cond.selects RX3 yX3_fail yX3_fail) := ⟨wsL_law0_r5_in _ (List.mem_of_getElem? (i := 9) rfl), by decide +kernel⟩
theorem lq_5_10 : lgd (Cond.code yX3_fail cX3_fail 2 (some .int)) := ⟨wsL_law0_r5_in _ (List.mem_of_getElem? (i := 10) rfl), by decide +kernel⟩
theorem lq_5_11 : lgd (Cond.methodLink RX3 44 yX3_ha) := ⟨wsL_law0_r5_in _ (List.mem_of_getElem? (i := 11) rfl), by decide +kernel⟩
theorem lq_5_12 : lgd (Cond.instanceMethod yX3_ha) := ⟨wsL_law0_r5_in _ (List.mem_of_getElem? (i := 12) rfl), by decide +kernel⟩
theorem lq_5_13 : lgd (Cond.selects RX3 yX3_ha yX3_ha) := ⟨wsL_law0_r5_in _ (List.mem_of_getElem? (i := 13) rfl), by decide +kernel⟩
theorem lq_5_14 : lgd (Cond.code yX3_ha cX3_ha 3 (some .int)) := ⟨wsL_law0_r5_in _ (List.mem_of_getElem? (i := 14) rfl), by decide +kernel⟩
theorem lq_5_15 : lgd (Cond.methodLink RX3 55 yX3_tone) := ⟨wsL_law0_r5_in _ (List.mem_of_getElem? (i := 15) rfl), by decide +kernel⟩
theorem lq_5_16 : lgd (Cond.instanceMethod yX3_tone) := ⟨wsL_law0_r5_in _ (List.mem_of_getElem? (i := 16) rfl), by decide +kernel⟩
theorem lq_5_17 : lgd (Cond.selects RX3 yX3_tone yX3_tone) := ⟨wsL_law0_r5_in _ (List.mem_of_getElem? (i := 17) rfl), by decide +kernel⟩
theorem lq_5_18 : lgd (Cond.code yX3_tone cX3_tone 2 (some .int)) := ⟨wsL_law0_r5_in _ (List.mem_of_getElem? (i := 18) rfl), by decide +kernel⟩
theorem lq_5_19 : lgd (Cond.methodLink RX3 48 yX3_wedge) := ⟨wsL_law0_r5_in _ (List.mem_of_getElem? (i := 19) rfl), by decide +kernel⟩
theorem lq_5_20 : lgd (Cond.instanceMethod yX3_wedge) := ⟨wsL_law0_r5_in _ (List.mem_of_getElem? (i := 20) rfl), by decide +kernel⟩
theorem lq_5_21 : lgd (Cond.selects RX3 yX3_wedge yX3_wedge) := ⟨wsL_law0_r5_in _ (List.mem_of_getElem? (i := 21) rfl), by decide +kernel⟩
theorem lq_5_22 : lgd (Cond.code yX3_wedge cX3_wedge 2 (some .int)) := ⟨wsL_law0_r5_in _ (List.mem_of_getElem? (i := 22) rfl), by decide +kernel⟩
theorem lq_5_23 : lgd (Cond.methodLink RL 72 yX3_thrown) := ⟨wsL_law0_r5_in _ (List.mem_of_getElem? (i := 23) rfl), by decide +kernel⟩
theorem lq_6_0 : lgd (Cond.instanceMethod yX3_thrown) := ⟨wsL_law0_r6_in _ (List.mem_of_getElem? (i := 0) rfl), by decide +kernel⟩
theorem lq_6_1 : lgd (Cond.selects RX3 yX3_thrown yX3_thrown) := ⟨wsL_law0_r6_in _ (List.mem_of_getElem? (i := 1) rfl), by decide +kernel⟩
theorem lq_6_2 : lgd (Cond.code yX3_thrown cX3_thrown 1 (some .int)) := ⟨wsL_law0_r6_in _ (List.mem_of_getElem? (i := 2) rfl), by decide +kernel⟩
theorem lq_6_3 : lgd (Cond.methodLink RL 76 yL_draw) := ⟨wsL_law0_r6_in _ (List.mem_of_getElem? (i := 3) rfl), by decide +kernel⟩
theorem lq_6_4 : lgd (Cond.static yL_draw) := ⟨wsL_law0_r6_in _ (List.mem_of_getElem? (i := 4) rfl), by decide +kernel⟩
theorem lq_6_5 : lgd (Cond.codeWith yL_draw cL_draw 5 (some .int) [(0, 10, 13, 13), (0, 10, 17, 15)]) := ⟨wsL_law0_r6_in _ (List.mem_of_getElem? (i := 5) rfl), by decide +kernel⟩
theorem lq_6_6 : lgd (Cond.methodLink RL 19 yX2_draw) := ⟨wsL_law0_r6_in _ (List.mem_of_getElem? (i := 6) rfl), by decide +kernel⟩
theorem lq_6_7 : lgd (Cond.instanceMethod yX2_draw) := ⟨wsL_law0_r6_in _ (List.mem_of_getElem? (i := 7) rfl), by decide +kernel⟩
theorem lq_6_8 : lgd (Cond.selects RX2 yX2_draw yX2_draw) := ⟨wsL_law0_r6_in _ (List.mem_of_getElem? (i := 8) rfl), by decide +kernel⟩
theorem lq_6_9 : lgd (Cond.code yX2_draw cX2_draw 3 (some .int)) := ⟨wsL_law0_r6_in _ (List.mem_of_getElem? (i := 9) rfl), by decide +kernel⟩
theorem lq_6_10 : lgd (Cond.methodLink RX2 69 yX1_renew) := ⟨wsL_law0_r6_in _ (List.mem_of_getElem? (i := 10) rfl), by decide +kernel⟩
theorem lq_6_11 : lgd (Cond.instanceMethod yX1_renew) := ⟨wsL_law0_r6_in _ (List.mem_of_getElem? (i := 11) rfl), by decide +kernel⟩
theorem lq_6_12 : lgd (Cond.selects RX1 yX1_renew yX1_renew) := ⟨wsL_law0_r6_in _ (List.mem_of_getElem? (i := 12) rfl), by decide +kernel⟩
theorem lq_6_13 : lgd (Cond.code yX1_renew cX1_renew 3 none) := ⟨wsL_law0_r6_in _ (List.mem_of_getElem? (i := 13) rfl), by decide +kernel⟩
theorem lq_6_14 : lgd (Cond.methodLink RL 78 yX3_draw) := ⟨wsL_law0_r6_in _ (List.mem_of_getElem? (i := 14) rfl), by decide +kernel⟩
theorem lq_6_15 : lgd (Cond.instanceMethod yX3_draw) := ⟨wsL_law0_r6_in _ (List.mem_of_getElem? (i := 15) rfl), by decide +kernel⟩
theorem lq_6_16 : lgd (Cond.selects RX3 yX3_draw yX3_draw) := ⟨wsL_law0_r6_in _ (List.mem_of_getElem? (i := 16) rfl), by decide +kernel⟩
theorem lq_6_17 : lgd (Cond.code yX3_draw cX3_draw 3 (some .int)) := ⟨wsL_law0_r6_in _ (List.mem_of_getElem? (i := 17) rfl), by decide +kernel⟩
theorem lq_6_18 : lgd (Cond.methodLink RL 79 yL_setWeather) := ⟨wsL_law0_r6_in _ (List.mem_of_getElem? (i := 18) rfl), by decide +kernel⟩
theorem lq_6_19 : lgd (Cond.static yL_setWeather) := ⟨wsL_law0_r6_in _ (List.mem_of_getElem? (i := 19) rfl), by decide +kernel⟩
theorem lq_6_20 : lgd (Cond.codeWith yL_setWeather cL_setWeather 6 (some .int) [(0, 12, 15, 13), (0, 12, 19, 15)]) := ⟨wsL_law0_r6_in _ (List.mem_of_getElem? (i := 20) rfl), by decide +kernel⟩
theorem lq_6_21 : lgd (Cond.methodLink RL 22 yX2_setWeather) := ⟨wsL_law0_r6_in _ (List.mem_of_getElem? (i := 21) rfl), by decide +kernel⟩
theorem lq_6_22 : lgd (Cond.instanceMethod yX2_setWeather) := ⟨wsL_law0_r6_in _ (List.mem_of_getElem? (i := 22) rfl), by decide +kernel⟩
theorem lq_6_23 : lgd (Cond.selects RX2 yX2_setWeather yX2_setWeather) := ⟨wsL_law0_r6_in _ (List.mem_of_getElem? (i := 23) rfl), by decide +kernel⟩
theorem lq_7_0 : lgd (Cond.code yX2_setWeather cX2_setWeather 5 (some .int)) := ⟨wsL_law0_r7_in _ (List.mem_of_getElem? (i := 0) rfl), by decide +kernel⟩
theorem lq_7_1 : lgd (Cond.methodLink RX2 82 yX2_weatherAt) := ⟨wsL_law0_r7_in _ (List.mem_of_getElem? (i := 1) rfl), by decide +kernel⟩
theorem lq_7_2 : lgd (Cond.instanceMethod yX2_weatherAt) := ⟨wsL_law0_r7_in _ (List.mem_of_getElem? (i := 2) rfl), by decide +kernel⟩
theorem lq_7_3 : lgd (Cond.selects RX2 yX2_weatherAt yX2_weatherAt) := ⟨wsL_law0_r7_in _ (List.mem_of_getElem? (i := 3) rfl), by decide +kernel⟩
theorem lq_7_4 : lgd (Cond.code yX2_weatherAt cX2_weatherAt 2 (some .int)) := ⟨wsL_law0_r7_in _ (List.mem_of_getElem? (i := 4) rfl), by decide +kernel⟩
theorem lq_7_5 : lgd (Cond.methodLink RL 82 yX3_setWeather) := ⟨wsL_law0_r7_in _ (List.mem_of_getElem? (i := 5) rfl), by decide +kernel⟩
theorem lq_7_6 : lgd (Cond.instanceMethod yX3_setWeather) := ⟨wsL_law0_r7_in _ (List.mem_of_getElem? (i := 6) rfl), by decide +kernel⟩
theorem lq_7_7 : lgd (Cond.selects RX3 yX3_setWeather yX3_setWeather) := ⟨wsL_law0_r7_in _ (List.mem_of_getElem? (i := 7) rfl), by decide +kernel⟩
theorem lq_7_8 : lgd (Cond.code yX3_setWeather cX3_setWeather 5 (some .int)) := ⟨wsL_law0_r7_in _ (List.mem_of_getElem? (i := 8) rfl), by decide +kernel⟩
theorem lq_7_9 : lgd (Cond.methodLink RL 83 yL_string) := ⟨wsL_law0_r7_in _ (List.mem_of_getElem? (i := 9) rfl), by decide +kernel⟩
theorem lq_7_10 : lgd (Cond.static yL_string) := ⟨wsL_law0_r7_in _ (List.mem_of_getElem? (i := 10) rfl), by decide +kernel⟩
theorem lq_7_11 : lgd (Cond.codeWith yL_string cL_string 5 (some .int) [(0, 10, 13, 13)]) := ⟨wsL_law0_r7_in _ (List.mem_of_getElem? (i := 11) rfl), by decide +kernel⟩
theorem lq_7_12 : lgd (Cond.methodLink RL 26 yX2_string) := ⟨wsL_law0_r7_in _ (List.mem_of_getElem? (i := 12) rfl), by decide +kernel⟩
theorem lq_7_13 : lgd (Cond.instanceMethod yX2_string) := ⟨wsL_law0_r7_in _ (List.mem_of_getElem? (i := 13) rfl), by decide +kernel⟩
theorem lq_7_14 : lgd (Cond.selects RX2 yX2_string yX2_string) := ⟨wsL_law0_r7_in _ (List.mem_of_getElem? (i := 14) rfl), by decide +kernel⟩
theorem lq_7_15 : lgd (Cond.code yX2_string cX2_string 3 (some .int)) := ⟨wsL_law0_r7_in _ (List.mem_of_getElem? (i := 15) rfl), by decide +kernel⟩
theorem lq_7_16 : lgd (Cond.methodLink RX2 87 yX1_factOf) := ⟨wsL_law0_r7_in _ (List.mem_of_getElem? (i := 16) rfl), by decide +kernel⟩
theorem lq_7_17 : lgd (Cond.instanceMethod yX1_factOf) := ⟨wsL_law0_r7_in _ (List.mem_of_getElem? (i := 17) rfl), by decide +kernel⟩
theorem lq_7_18 : lgd (Cond.selects RX1 yX1_factOf yX1_factOf) := ⟨wsL_law0_r7_in _ (List.mem_of_getElem? (i := 18) rfl), by decide +kernel⟩
theorem lq_7_19 : lgd (Cond.code yX1_factOf cX1_factOf 3 (some .int)) := ⟨wsL_law0_r7_in _ (List.mem_of_getElem? (i := 19) rfl), by decide +kernel⟩
theorem lq_7_20 : lgd (Cond.methodLink RX1 38 yX1_toneOf) := ⟨wsL_law0_r7_in _ (List.mem_of_getElem? (i := 20) rfl), by decide +kernel⟩
theorem lq_7_21 : lgd (Cond.methodLink RL 85 yX3_string) := ⟨wsL_law0_r7_in _ (List.mem_of_getElem? (i := 21) rfl), by decide +kernel⟩
theorem lq_7_22 : lgd (Cond.instanceMethod yX3_string) := ⟨wsL_law0_r7_in _ (List.mem_of_getElem? (i := 22) rfl), by decide +kernel⟩
theorem lq_7_23 : lgd (Cond.selects RX3 yX3_string yX3_string) := ⟨wsL_law0_r7_in _ (List.mem_of_getElem? (i := 23) rfl), by decide +kernel⟩
theorem lq_8_0 : lgd (Cond.code yX3_string cX3_string 3 (some .int)) := ⟨wsL_law0_r8_in _ (List.mem_of_getElem? (i := 0) rfl), by decide +kernel⟩
theorem lq_8_1 : lgd (Cond.methodLink RX3 58 yX3_stringTold) := ⟨wsL_law0_r8_in _ (List.mem_of_getElem? (i := 1) rfl), by decide +kernel⟩
theorem lq_8_2 : lgd (Cond.instanceMethod yX3_stringTold) := ⟨wsL_law0_r8_in _ (List.mem_of_getElem? (i := 2) rfl), by decide +kernel⟩
theorem lq_8_3 : lgd (Cond.selects RX3 yX3_stringTold yX3_stringTold) := ⟨wsL_law0_r8_in _ (List.mem_of_getElem? (i := 3) rfl), by decide +kernel⟩
theorem lq_8_4 : lgd (Cond.code yX3_stringTold cX3_stringTold 3 (some .int)) := ⟨wsL_law0_r8_in _ (List.mem_of_getElem? (i := 4) rfl), by decide +kernel⟩
theorem lq_8_5 : lgd (Cond.methodLink RL 86 yL_moves) := ⟨wsL_law0_r8_in _ (List.mem_of_getElem? (i := 5) rfl), by decide +kernel⟩
theorem lq_8_6 : lgd (Cond.static yL_moves) := ⟨wsL_law0_r8_in _ (List.mem_of_getElem? (i := 6) rfl), by decide +kernel⟩
theorem lq_8_7 : lgd (Cond.codeWith yL_moves cL_moves 6 (some .int) [(0, 12, 15, 13), (0, 12, 19, 15)]) := ⟨wsL_law0_r8_in _ (List.mem_of_getElem? (i := 7) rfl), by decide +kernel⟩
theorem lq_8_8 : lgd (Cond.methodLink RL 29 yX2_moves) := ⟨wsL_law0_r8_in _ (List.mem_of_getElem? (i := 8) rfl), by decide +kernel⟩
theorem lq_8_9 : lgd (Cond.instanceMethod yX2_moves) := ⟨wsL_law0_r8_in _ (List.mem_of_getElem? (i := 9) rfl), by decide +kernel⟩
theorem lq_8_10 : lgd (Cond.selects RX2 yX2_moves yX2_moves) := ⟨wsL_law0_r8_in _ (List.mem_of_getElem? (i := 10) rfl), by decide +kernel⟩
theorem lq_8_11 : lgd (Cond.code yX2_moves cX2_moves 4 (some .int)) := ⟨wsL_law0_r8_in _ (List.mem_of_getElem? (i := 11) rfl), by decide +kernel⟩
theorem lq_8_12 : lgd (Cond.fieldLink RX2 91 "WedgeHarps$Harp" "whole" "[Z") := ⟨wsL_law0_r8_in _ (List.mem_of_getElem? (i := 12) rfl), by decide +kernel⟩
theorem lq_8_13 : lgd (Cond.methodLink RX2 95 Lib.Math.abs.name) := ⟨wsL_law0_r8_in _ (List.mem_of_getElem? (i := 13) rfl), by decide +kernel⟩
theorem lq_8_14 : lgd (Cond.static Lib.Math.abs.name) := ⟨wsL_law0_r8_in _ (List.mem_of_getElem? (i := 14) rfl), by decide +kernel⟩
theorem lq_8_15 : lgd (Cond.initialized "java/lang/Math") := ⟨wsL_law0_r8_in _ (List.mem_of_getElem? (i := 15) rfl), by decide +kernel⟩
theorem lq_8_16 : lgd (Cond.code Lib.Math.abs.name Lib.Math.abs.code 1 (some .int)) := ⟨wsL_law0_r8_in _ (List.mem_of_getElem? (i := 16) rfl), by decide +kernel⟩
theorem lq_8_17 : lgd (Cond.methodLink RL 88 yX3_moves) := ⟨wsL_law0_r8_in _ (List.mem_of_getElem? (i := 17) rfl), by decide +kernel⟩
theorem lq_8_18 : lgd (Cond.instanceMethod yX3_moves) := ⟨wsL_law0_r8_in _ (List.mem_of_getElem? (i := 18) rfl), by decide +kernel⟩
theorem lq_8_19 : lgd (Cond.selects RX3 yX3_moves yX3_moves) := ⟨wsL_law0_r8_in _ (List.mem_of_getElem? (i := 19) rfl), by decide +kernel⟩
theorem lq_8_20 : lgd (Cond.code yX3_moves cX3_moves 6 (some .int)) := ⟨wsL_law0_r8_in _ (List.mem_of_getElem? (i := 20) rfl), by decide +kernel⟩
theorem lq_8_21 : lgd (Cond.methodLink RL 89 yL_chord) := ⟨wsL_law0_r8_in _ (List.mem_of_getElem? (i := 21) rfl), by decide +kernel⟩
theorem lq_8_22 : lgd (Cond.static yL_chord) := ⟨wsL_law0_r8_in _ (List.mem_of_getElem? (i := 22) rfl), by decide +kernel⟩
theorem lq_8_23 : lgd (Cond.codeWith yL_chord cL_chord 8 (some .int) [(0, 16, 19, 13), (0, 16, 23, 15), (0, 16, 27, 17)]) := ⟨wsL_law0_r8_in _ (List.mem_of_getElem? (i := 23) rfl), by decide +kernel⟩
theorem lq_9_0 : lgd (Cond.methodLink RL 32 yX2_chord) := ⟨wsL_law0_r9_in _ (List.mem_of_getElem? (i := 0) rfl), by decide +kernel⟩
theorem lq_9_1 : lgd (Cond.instanceMethod yX2_chord) := ⟨wsL_law0_r9_in _ (List.mem_of_getElem? (i := 1) rfl), by decide +kernel⟩
theorem lq_9_2 : lgd (Cond.selects RX2 yX2_chord yX2_chord) := ⟨wsL_law0_r9_in _ (List.mem_of_getElem? (i := 2) rfl), by decide +kernel⟩
theorem lq_9_3 : lgd (Cond.code yX2_chord cX2_chord 8 (some .int)) := ⟨wsL_law0_r9_in _ (List.mem_of_getElem? (i := 3) rfl), by decide +kernel⟩
theorem lq_9_4 : lgd (Cond.methodLink RX2 100 yX2_checkTone) := ⟨wsL_law0_r9_in _ (List.mem_of_getElem? (i := 4) rfl), by decide +kernel⟩
theorem lq_9_5 : lgd (Cond.static yX2_checkTone) := ⟨wsL_law0_r9_in _ (List.mem_of_getElem? (i := 5) rfl), by decide +kernel⟩
theorem lq_9_6 : lgd (Cond.code yX2_checkTone cX2_checkTone 2 none) := ⟨wsL_law0_r9_in _ (List.mem_of_getElem? (i := 6) rfl), by decide +kernel⟩
theorem lq_9_7 : lgd (Cond.methodLink RX2 109 yX0_place) := ⟨wsL_law0_r9_in _ (List.mem_of_getElem? (i := 7) rfl), by decide +kernel⟩
theorem lq_9_8 : lgd (Cond.instanceMethod yX0_place) := ⟨wsL_law0_r9_in _ (List.mem_of_getElem? (i := 8) rfl), by decide +kernel⟩
theorem lq_9_9 : lgd (Cond.selects RX0 yX0_place yX0_place) := ⟨wsL_law0_r9_in _ (List.mem_of_getElem? (i := 9) rfl), by decide +kernel⟩
theorem lq_9_10 : lgd (Cond.code yX0_place cX0_place 3 none) := ⟨wsL_law0_r9_in _ (List.mem_of_getElem? (i := 10) rfl), by decide +kernel⟩
theorem lq_9_11 : lgd (Cond.methodLink RX2 112 yX0_tune) := ⟨wsL_law0_r9_in _ (List.mem_of_getElem? (i := 11) rfl), by decide +kernel⟩
theorem lq_9_12 : lgd (Cond.instanceMethod yX0_tune) := ⟨wsL_law0_r9_in _ (List.mem_of_getElem? (i := 12) rfl), by decide +kernel⟩
theorem lq_9_13 : lgd (Cond.selects RX0 yX0_tune yX0_tune) := ⟨wsL_law0_r9_in _ (List.mem_of_getElem? (i := 13) rfl), by decide +kernel⟩
theorem lq_9_14 : lgd (Cond.code yX0_tune cX0_tune 5 none) := ⟨wsL_law0_r9_in _ (List.mem_of_getElem? (i := 14) rfl), by decide +kernel⟩
theorem lq_9_15 : lgd (Cond.methodLink RL 92 yX3_chord) := ⟨wsL_law0_r9_in _ (List.mem_of_getElem? (i := 15) rfl), by decide +kernel⟩
theorem lq_9_16 : lgd (Cond.instanceMethod yX3_chord) := ⟨wsL_law0_r9_in _ (List.mem_of_getElem? (i := 16) rfl), by decide +kernel⟩
theorem lq_9_17 : lgd (Cond.selects RX3 yX3_chord yX3_chord) := ⟨wsL_law0_r9_in _ (List.mem_of_getElem? (i := 17) rfl), by decide +kernel⟩
theorem lq_9_18 : lgd (Cond.code yX3_chord cX3_chord 8 (some .int)) := ⟨wsL_law0_r9_in _ (List.mem_of_getElem? (i := 18) rfl), by decide +kernel⟩
theorem lq_9_19 : lgd (Cond.fieldLink RX3 61 "WedgeHarpsModel" "chords" "I") := ⟨wsL_law0_r9_in _ (List.mem_of_getElem? (i := 19) rfl), by decide +kernel⟩
theorem lq_9_20 : lgd (Cond.methodLink RX3 64 arraycopyName) := ⟨wsL_law0_r9_in _ (List.mem_of_getElem? (i := 20) rfl), by decide +kernel⟩
theorem lq_9_21 : lgd (Cond.native arraycopyName) := ⟨wsL_law0_r9_in _ (List.mem_of_getElem? (i := 21) rfl), by decide +kernel⟩
theorem lq_9_22 : lgd (Cond.static arraycopyName) := ⟨wsL_law0_r9_in _ (List.mem_of_getElem? (i := 22) rfl), by decide +kernel⟩
theorem lq_9_23 : lgd (Cond.initialized "java/lang/System") := ⟨wsL_law0_r9_in _ (List.mem_of_getElem? (i := 23) rfl), by decide +kernel⟩
theorem lq_10_0 : lgd (Cond.methodLink RL 93 yL_off) := ⟨wsL_law0_r10_in _ (List.mem_of_getElem? (i := 0) rfl), by decide +kernel⟩
theorem lq_10_1 : lgd (Cond.static yL_off) := ⟨wsL_law0_r10_in _ (List.mem_of_getElem? (i := 1) rfl), by decide +kernel⟩
theorem lq_10_2 : lgd (Cond.codeWith yL_off cL_off 4 (some .int) [(0, 9, 12, 13)]) := ⟨wsL_law0_r10_in _ (List.mem_of_getElem? (i := 2) rfl), by decide +kernel⟩
theorem lq_10_3 : lgd (Cond.methodLink RL 36 yX2_off) := ⟨wsL_law0_r10_in _ (List.mem_of_getElem? (i := 3) rfl), by decide +kernel⟩
theorem lq_10_4 : lgd (Cond.instanceMethod yX2_off) := ⟨wsL_law0_r10_in _ (List.mem_of_getElem? (i := 4) rfl), by decide +kernel⟩
theorem lq_10_5 : lgd (Cond.selects RX2 yX2_off yX2_off) := ⟨wsL_law0_r10_in _ (List.mem_of_getElem? (i := 5) rfl), by decide +kernel⟩
theorem lq_10_6 : lgd (Cond.code yX2_off cX2_off 2 (some .int)) := ⟨wsL_law0_r10_in _ (List.mem_of_getElem? (i := 6) rfl), by decide +kernel⟩
theorem lq_10_7 : lgd (Cond.methodLink RX2 116 yX2_checkChord) := ⟨wsL_law0_r10_in _ (List.mem_of_getElem? (i := 7) rfl), by decide +kernel⟩
theorem lq_10_8 : lgd (Cond.instanceMethod yX2_checkChord) := ⟨wsL_law0_r10_in _ (List.mem_of_getElem? (i := 8) rfl), by decide +kernel⟩
theorem lq_10_9 : lgd (Cond.selects RX2 yX2_checkChord yX2_checkChord) := ⟨wsL_law0_r10_in _ (List.mem_of_getElem? (i := 9) rfl), by decide +kernel⟩
theorem lq_10_10 : lgd (Cond.code yX2_checkChord cX2_checkChord 2 none) := ⟨wsL_law0_r10_in _ (List.mem_of_getElem? (i := 10) rfl), by decide +kernel⟩
theorem lq_10_11 : lgd (Cond.methodLink RX2 119 yX1_distanceFrom) := ⟨wsL_law0_r10_in _ (List.mem_of_getElem? (i := 11) rfl), by decide +kernel⟩
theorem lq_10_12 : lgd (Cond.instanceMethod yX1_distanceFrom) := ⟨wsL_law0_r10_in _ (List.mem_of_getElem? (i := 12) rfl), by decide +kernel⟩
theorem lq_10_13 : lgd (Cond.selects RX1 yX1_distanceFrom yX1_distanceFrom) := ⟨wsL_law0_r10_in _ (List.mem_of_getElem? (i := 13) rfl), by decide +kernel⟩
theorem lq_10_14 : lgd (Cond.code yX1_distanceFrom cX1_distanceFrom 4 (some .int)) := ⟨wsL_law0_r10_in _ (List.mem_of_getElem? (i := 14) rfl), by decide +kernel⟩
theorem lq_10_15 : lgd (Cond.fieldLink RX1 42 "WedgeHarps$Chord" "size" "I") := ⟨wsL_law0_r10_in _ (List.mem_of_getElem? (i := 15) rfl), by decide +kernel⟩
theorem lq_10_16 : lgd (Cond.fieldLink RX1 47 "WedgeHarps$Chord" "lowest" "I") := ⟨wsL_law0_r10_in _ (List.mem_of_getElem? (i := 16) rfl), by decide +kernel⟩
theorem lq_10_17 : lgd (Cond.fieldLink RX1 50 "WedgeHarps$Chord" "tones" "[I") := ⟨wsL_law0_r10_in _ (List.mem_of_getElem? (i := 17) rfl), by decide +kernel⟩
theorem lq_10_18 : lgd (Cond.methodLink RX1 53 Lib.Math.abs.name) := ⟨wsL_law0_r10_in _ (List.mem_of_getElem? (i := 18) rfl), by decide +kernel⟩
theorem lq_10_19 : lgd (Cond.methodLink RL 96 yX3_off) := ⟨wsL_law0_r10_in _ (List.mem_of_getElem? (i := 19) rfl), by decide +kernel⟩
theorem lq_10_20 : lgd (Cond.instanceMethod yX3_off) := ⟨wsL_law0_r10_in _ (List.mem_of_getElem? (i := 20) rfl), by decide +kernel⟩
theorem lq_10_21 : lgd (Cond.selects RX3 yX3_off yX3_off) := ⟨wsL_law0_r10_in _ (List.mem_of_getElem? (i := 21) rfl), by decide +kernel⟩
theorem lq_10_22 : lgd (Cond.code yX3_off cX3_off 2 (some .int)) := ⟨wsL_law0_r10_in _ (List.mem_of_getElem? (i := 22) rfl), by decide +kernel⟩
theorem lq_10_23 : lgd (Cond.methodLink RX3 81 yX3_isChord) := ⟨wsL_law0_r10_in _ (List.mem_of_getElem? (i := 23) rfl), by decide +kernel⟩
theorem lq_11_0 : lgd (Cond.instanceMethod yX3_isChord) := ⟨wsL_law0_r11_in _ (List.mem_of_getElem? (i := 0) rfl), by decide +kernel⟩
theorem lq_11_1 : lgd (Cond.selects RX3 yX3_isChord yX3_isChord) := ⟨wsL_law0_r11_in _ (List.mem_of_getElem? (i := 1) rfl), by decide +kernel⟩
theorem lq_11_2 : lgd (Cond.code yX3_isChord cX3_isChord 2 (some .boolean)) := ⟨wsL_law0_r11_in _ (List.mem_of_getElem? (i := 2) rfl), by decide +kernel⟩
theorem lq_11_3 : lgd (Cond.methodLink RX3 84 yX3_offBy) := ⟨wsL_law0_r11_in _ (List.mem_of_getElem? (i := 3) rfl), by decide +kernel⟩
theorem lq_11_4 : lgd (Cond.instanceMethod yX3_offBy) := ⟨wsL_law0_r11_in _ (List.mem_of_getElem? (i := 4) rfl), by decide +kernel⟩
theorem lq_11_5 : lgd (Cond.selects RX3 yX3_offBy yX3_offBy) := ⟨wsL_law0_r11_in _ (List.mem_of_getElem? (i := 5) rfl), by decide +kernel⟩
theorem lq_11_6 : lgd (Cond.code yX3_offBy cX3_offBy 4 (some .int)) := ⟨wsL_law0_r11_in _ (List.mem_of_getElem? (i := 6) rfl), by decide +kernel⟩
theorem lq_11_7 : lgd (Cond.methodLink RX3 70 yX3_to) := ⟨wsL_law0_r11_in _ (List.mem_of_getElem? (i := 7) rfl), by decide +kernel⟩
theorem lq_11_8 : lgd (Cond.instanceMethod yX3_to) := ⟨wsL_law0_r11_in _ (List.mem_of_getElem? (i := 8) rfl), by decide +kernel⟩
theorem lq_11_9 : lgd (Cond.selects RX3 yX3_to yX3_to) := ⟨wsL_law0_r11_in _ (List.mem_of_getElem? (i := 9) rfl), by decide +kernel⟩
theorem lq_11_10 : lgd (Cond.code yX3_to cX3_to 3 (some .int)) := ⟨wsL_law0_r11_in _ (List.mem_of_getElem? (i := 10) rfl), by decide +kernel⟩
theorem lq_11_11 : lgd (Cond.methodLink RX3 78 yX3_differs) := ⟨wsL_law0_r11_in _ (List.mem_of_getElem? (i := 11) rfl), by decide +kernel⟩
theorem lq_11_12 : lgd (Cond.instanceMethod yX3_differs) := ⟨wsL_law0_r11_in _ (List.mem_of_getElem? (i := 12) rfl), by decide +kernel⟩
theorem lq_11_13 : lgd (Cond.selects RX3 yX3_differs yX3_differs) := ⟨wsL_law0_r11_in _ (List.mem_of_getElem? (i := 13) rfl), by decide +kernel⟩
theorem lq_11_14 : lgd (Cond.code yX3_differs cX3_differs 3 (some .int)) := ⟨wsL_law0_r11_in _ (List.mem_of_getElem? (i := 14) rfl), by decide +kernel⟩
theorem lq_11_15 : lgd (Cond.methodLink RX3 73 Lib.Math.abs.name) := ⟨wsL_law0_r11_in _ (List.mem_of_getElem? (i := 15) rfl), by decide +kernel⟩
theorem lq_11_16 : lgd (Cond.methodLink RL 97 yL_sounds) := ⟨wsL_law0_r11_in _ (List.mem_of_getElem? (i := 16) rfl), by decide +kernel⟩
theorem lq_11_17 : lgd (Cond.static yL_sounds) := ⟨wsL_law0_r11_in _ (List.mem_of_getElem? (i := 17) rfl), by decide +kernel⟩
theorem lq_11_18 : lgd (Cond.codeWith yL_sounds cL_sounds 4 (some .int) [(0, 16, 19, 13)]) := ⟨wsL_law0_r11_in _ (List.mem_of_getElem? (i := 18) rfl), by decide +kernel⟩
theorem lq_11_19 : lgd (Cond.methodLink RL 40 yX2_sounds) := ⟨wsL_law0_r11_in _ (List.mem_of_getElem? (i := 19) rfl), by decide +kernel⟩
theorem lq_11_20 : lgd (Cond.instanceMethod yX2_sounds) := ⟨wsL_law0_r11_in _ (List.mem_of_getElem? (i := 20) rfl), by decide +kernel⟩
theorem lq_11_21 : lgd (Cond.selects RX2 yX2_sounds yX2_sounds) := ⟨wsL_law0_r11_in _ (List.mem_of_getElem? (i := 21) rfl), by decide +kernel⟩
theorem lq_11_22 : lgd (Cond.code yX2_sounds cX2_sounds 2 (some .boolean)) := ⟨wsL_law0_r11_in _ (List.mem_of_getElem? (i := 22) rfl), by decide +kernel⟩
theorem lq_11_23 : lgd (Cond.methodLink RX2 123 yX1_isTunedTo) := ⟨wsL_law0_r11_in _ (List.mem_of_getElem? (i := 23) rfl), by decide +kernel⟩
theorem lq_12_0 : lgd (Cond.instanceMethod yX1_isTunedTo) := ⟨wsL_law0_r12_in _ (List.mem_of_getElem? (i := 0) rfl), by decide +kernel⟩
theorem lq_12_1 : lgd (Cond.selects RX1 yX1_isTunedTo yX1_isTunedTo) := ⟨wsL_law0_r12_in _ (List.mem_of_getElem? (i := 1) rfl), by decide +kernel⟩
theorem lq_12_2 : lgd (Cond.code yX1_isTunedTo cX1_isTunedTo 3 (some .boolean)) := ⟨wsL_law0_r12_in _ (List.mem_of_getElem? (i := 2) rfl), by decide +kernel⟩
theorem lq_12_3 : lgd (Cond.methodLink RX1 58 yX1_fitsPushed) := ⟨wsL_law0_r12_in _ (List.mem_of_getElem? (i := 3) rfl), by decide +kernel⟩
theorem lq_12_4 : lgd (Cond.instanceMethod yX1_fitsPushed) := ⟨wsL_law0_r12_in _ (List.mem_of_getElem? (i := 4) rfl), by decide +kernel⟩
theorem lq_12_5 : lgd (Cond.selects RX1 yX1_fitsPushed yX1_fitsPushed) := ⟨wsL_law0_r12_in _ (List.mem_of_getElem? (i := 5) rfl), by decide +kernel⟩
theorem lq_12_6 : lgd (Cond.code yX1_fitsPushed cX1_fitsPushed 7 (some .boolean)) := ⟨wsL_law0_r12_in _ (List.mem_of_getElem? (i := 6) rfl), by decide +kernel⟩
theorem lq_12_7 : lgd (Cond.methodLink RL 99 yX3_sounds) := ⟨wsL_law0_r12_in _ (List.mem_of_getElem? (i := 7) rfl), by decide +kernel⟩
theorem lq_12_8 : lgd (Cond.instanceMethod yX3_sounds) := ⟨wsL_law0_r12_in _ (List.mem_of_getElem? (i := 8) rfl), by decide +kernel⟩
theorem lq_12_9 : lgd (Cond.selects RX3 yX3_sounds yX3_sounds) := ⟨wsL_law0_r12_in _ (List.mem_of_getElem? (i := 9) rfl), by decide +kernel⟩
theorem lq_12_10 : lgd (Cond.code yX3_sounds cX3_sounds 2 (some .boolean)) := ⟨wsL_law0_r12_in _ (List.mem_of_getElem? (i := 10) rfl), by decide +kernel⟩
theorem lq_12_11 : lgd (Cond.methodLink RX3 87 yX3_isSounding) := ⟨wsL_law0_r12_in _ (List.mem_of_getElem? (i := 11) rfl), by decide +kernel⟩
theorem lq_12_12 : lgd (Cond.instanceMethod yX3_isSounding) := ⟨wsL_law0_r12_in _ (List.mem_of_getElem? (i := 12) rfl), by decide +kernel⟩
theorem lq_12_13 : lgd (Cond.selects RX3 yX3_isSounding yX3_isSounding) := ⟨wsL_law0_r12_in _ (List.mem_of_getElem? (i := 13) rfl), by decide +kernel⟩
theorem lq_12_14 : lgd (Cond.code yX3_isSounding cX3_isSounding 3 (some .boolean)) := ⟨wsL_law0_r12_in _ (List.mem_of_getElem? (i := 14) rfl), by decide +kernel⟩
theorem lq_12_15 : lgd (Cond.methodLink RL 100 yL_steps) := ⟨wsL_law0_r12_in _ (List.mem_of_getElem? (i := 15) rfl), by decide +kernel⟩
theorem lq_12_16 : lgd (Cond.static yL_steps) := ⟨wsL_law0_r12_in _ (List.mem_of_getElem? (i := 16) rfl), by decide +kernel⟩
theorem lq_12_17 : lgd (Cond.codeWith yL_steps cL_steps 4 (some .int) [(0, 9, 12, 13)]) := ⟨wsL_law0_r12_in _ (List.mem_of_getElem? (i := 17) rfl), by decide +kernel⟩
theorem lq_12_18 : lgd (Cond.methodLink RL 44 yX2_steps) := ⟨wsL_law0_r12_in _ (List.mem_of_getElem? (i := 18) rfl), by decide +kernel⟩
theorem lq_12_19 : lgd (Cond.instanceMethod yX2_steps) := ⟨wsL_law0_r12_in _ (List.mem_of_getElem? (i := 19) rfl), by decide +kernel⟩
theorem lq_12_20 : lgd (Cond.selects RX2 yX2_steps yX2_steps) := ⟨wsL_law0_r12_in _ (List.mem_of_getElem? (i := 20) rfl), by decide +kernel⟩
theorem lq_12_21 : lgd (Cond.code yX2_steps cX2_steps 3 (some .int)) := ⟨wsL_law0_r12_in _ (List.mem_of_getElem? (i := 21) rfl), by decide +kernel⟩
theorem lq_12_22 : lgd (Cond.methodLink RX2 127 yX2_fewestSteps) := ⟨wsL_law0_r12_in _ (List.mem_of_getElem? (i := 22) rfl), by decide +kernel⟩
theorem lq_12_23 : lgd (Cond.static yX2_fewestSteps) := ⟨wsL_law0_r12_in _ (List.mem_of_getElem? (i := 23) rfl), by decide +kernel⟩
theorem lq_13_0 : lgd (Cond.code yX2_fewestSteps cX2_fewestSteps 8 (some .int)) := ⟨wsL_law0_r13_in _ (List.mem_of_getElem? (i := 0) rfl), by decide +kernel⟩
theorem lq_13_1 : lgd (Cond.fieldLink RX2 157 "WedgeHarps$Chord" "size" "I") := ⟨wsL_law0_r13_in _ (List.mem_of_getElem? (i := 1) rfl), by decide +kernel⟩
theorem lq_13_2 : lgd (Cond.fieldLink RX2 154 "WedgeHarps$Chord" "lowest" "I") := ⟨wsL_law0_r13_in _ (List.mem_of_getElem? (i := 2) rfl), by decide +kernel⟩
theorem lq_13_3 : lgd (Cond.methodLink RX2 217 Lib.Math.min.name) := ⟨wsL_law0_r13_in _ (List.mem_of_getElem? (i := 3) rfl), by decide +kernel⟩
theorem lq_13_4 : lgd (Cond.static Lib.Math.min.name) := ⟨wsL_law0_r13_in _ (List.mem_of_getElem? (i := 4) rfl), by decide +kernel⟩
theorem lq_13_5 : lgd (Cond.code Lib.Math.min.name Lib.Math.min.code 2 (some .int)) := ⟨wsL_law0_r13_in _ (List.mem_of_getElem? (i := 5) rfl), by decide +kernel⟩
theorem lq_13_6 : lgd (Cond.methodLink RX2 213 yX1_fitsPushed) := ⟨wsL_law0_r13_in _ (List.mem_of_getElem? (i := 6) rfl), by decide +kernel⟩
theorem lq_13_7 : lgd (Cond.methodLink RL 102 yX3_steps) := ⟨wsL_law0_r13_in _ (List.mem_of_getElem? (i := 7) rfl), by decide +kernel⟩
theorem lq_13_8 : lgd (Cond.instanceMethod yX3_steps) := ⟨wsL_law0_r13_in _ (List.mem_of_getElem? (i := 8) rfl), by decide +kernel⟩
theorem lq_13_9 : lgd (Cond.selects RX3 yX3_steps yX3_steps) := ⟨wsL_law0_r13_in _ (List.mem_of_getElem? (i := 9) rfl), by decide +kernel⟩
theorem lq_13_10 : lgd (Cond.code yX3_steps cX3_steps 11 (some .int)) := ⟨wsL_law0_r13_in _ (List.mem_of_getElem? (i := 10) rfl), by decide +kernel⟩
theorem lq_13_11 : lgd (Cond.methodLink RL 103 yL_pass) := ⟨wsL_law0_r13_in _ (List.mem_of_getElem? (i := 11) rfl), by decide +kernel⟩
theorem lq_13_12 : lgd (Cond.static yL_pass) := ⟨wsL_law0_r13_in _ (List.mem_of_getElem? (i := 12) rfl), by decide +kernel⟩
theorem lq_13_13 : lgd (Cond.codeWith yL_pass cL_pass 4 (some .int) [(0, 9, 12, 15)]) := ⟨wsL_law0_r13_in _ (List.mem_of_getElem? (i := 13) rfl), by decide +kernel⟩
theorem lq_13_14 : lgd (Cond.methodLink RL 47 yX2_pass) := ⟨wsL_law0_r13_in _ (List.mem_of_getElem? (i := 14) rfl), by decide +kernel⟩
theorem lq_13_15 : lgd (Cond.instanceMethod yX2_pass) := ⟨wsL_law0_r13_in _ (List.mem_of_getElem? (i := 15) rfl), by decide +kernel⟩
theorem lq_13_16 : lgd (Cond.selects RX2 yX2_pass yX2_pass) := ⟨wsL_law0_r13_in _ (List.mem_of_getElem? (i := 16) rfl), by decide +kernel⟩
theorem lq_13_17 : lgd (Cond.code yX2_pass cX2_pass 4 (some .int)) := ⟨wsL_law0_r13_in _ (List.mem_of_getElem? (i := 17) rfl), by decide +kernel⟩
theorem lq_13_18 : lgd (Cond.methodLink RX2 131 yX2_checkHours) := ⟨wsL_law0_r13_in _ (List.mem_of_getElem? (i := 18) rfl), by decide +kernel⟩
theorem lq_13_19 : lgd (Cond.static yX2_checkHours) := ⟨wsL_law0_r13_in _ (List.mem_of_getElem? (i := 19) rfl), by decide +kernel⟩
theorem lq_13_20 : lgd (Cond.code yX2_checkHours cX2_checkHours 1 none) := ⟨wsL_law0_r13_in _ (List.mem_of_getElem? (i := 20) rfl), by decide +kernel⟩
theorem lq_13_21 : lgd (Cond.methodLink RX2 134 yX2_letHourGo) := ⟨wsL_law0_r13_in _ (List.mem_of_getElem? (i := 21) rfl), by decide +kernel⟩
theorem lq_13_22 : lgd (Cond.instanceMethod yX2_letHourGo) := ⟨wsL_law0_r13_in _ (List.mem_of_getElem? (i := 22) rfl), by decide +kernel⟩
theorem lq_13_23 : lgd (Cond.selects RX2 yX2_letHourGo yX2_letHourGo) := ⟨wsL_law0_r13_in _ (List.mem_of_getElem? (i := 23) rfl), by decide +kernel⟩
theorem lq_14_0 : lgd (Cond.code yX2_letHourGo cX2_letHourGo 5 (some .int)) := ⟨wsL_law0_r14_in _ (List.mem_of_getElem? (i := 0) rfl), by decide +kernel⟩
theorem lq_14_1 : lgd (Cond.methodLink RX2 206 yX1_hourOfTable) := ⟨wsL_law0_r14_in _ (List.mem_of_getElem? (i := 1) rfl), by decide +kernel⟩
theorem lq_14_2 : lgd (Cond.instanceMethod yX1_hourOfTable) := ⟨wsL_law0_r14_in _ (List.mem_of_getElem? (i := 2) rfl), by decide +kernel⟩
theorem lq_14_3 : lgd (Cond.selects RX1 yX1_hourOfTable yX1_hourOfTable) := ⟨wsL_law0_r14_in _ (List.mem_of_getElem? (i := 3) rfl), by decide +kernel⟩
theorem lq_14_4 : lgd (Cond.code yX1_hourOfTable cX1_hourOfTable 1 (some .int)) := ⟨wsL_law0_r14_in _ (List.mem_of_getElem? (i := 4) rfl), by decide +kernel⟩
theorem lq_14_5 : lgd (Cond.methodLink RX1 62 yJ9_floorMod_7cf53) := ⟨wsL_law0_r14_in _ (List.mem_of_getElem? (i := 5) rfl), by decide +kernel⟩
theorem lq_14_6 : lgd (Cond.static yJ9_floorMod_7cf53) := ⟨wsL_law0_r14_in _ (List.mem_of_getElem? (i := 6) rfl), by decide +kernel⟩
theorem lq_14_7 : lgd (Cond.initialized RJ9) := ⟨wsL_law0_r14_in _ (List.mem_of_getElem? (i := 7) rfl), by decide +kernel⟩
theorem lq_14_8 : lgd (Cond.code yJ9_floorMod_7cf53 cJ9_floorMod_7cf53 3 (some .int)) := ⟨wsL_law0_r14_in _ (List.mem_of_getElem? (i := 8) rfl), by decide +kernel⟩
theorem lq_14_9 : lgd (Cond.methodLink RX2 209 yX1_spendHour) := ⟨wsL_law0_r14_in _ (List.mem_of_getElem? (i := 9) rfl), by decide +kernel⟩
theorem lq_14_10 : lgd (Cond.instanceMethod yX1_spendHour) := ⟨wsL_law0_r14_in _ (List.mem_of_getElem? (i := 10) rfl), by decide +kernel⟩
theorem lq_14_11 : lgd (Cond.selects RX1 yX1_spendHour yX1_spendHour) := ⟨wsL_law0_r14_in _ (List.mem_of_getElem? (i := 11) rfl), by decide +kernel⟩
theorem lq_14_12 : lgd (Cond.code yX1_spendHour cX1_spendHour 7 (some .int)) := ⟨wsL_law0_r14_in _ (List.mem_of_getElem? (i := 12) rfl), by decide +kernel⟩
theorem lq_14_13 : lgd (Cond.methodLink RX1 66 yX1_breaksIn) := ⟨wsL_law0_r14_in _ (List.mem_of_getElem? (i := 13) rfl), by decide +kernel⟩
theorem lq_14_14 : lgd (Cond.instanceMethod yX1_breaksIn) := ⟨wsL_law0_r14_in _ (List.mem_of_getElem? (i := 14) rfl), by decide +kernel⟩
theorem lq_14_15 : lgd (Cond.selects RX1 yX1_breaksIn yX1_breaksIn) := ⟨wsL_law0_r14_in _ (List.mem_of_getElem? (i := 15) rfl), by decide +kernel⟩
theorem lq_14_16 : lgd (Cond.code yX1_breaksIn cX1_breaksIn 4 (some .boolean)) := ⟨wsL_law0_r14_in _ (List.mem_of_getElem? (i := 16) rfl), by decide +kernel⟩
theorem lq_14_17 : lgd (Cond.methodLink RX1 78 Lib.Math.max.name) := ⟨wsL_law0_r14_in _ (List.mem_of_getElem? (i := 17) rfl), by decide +kernel⟩
theorem lq_14_18 : lgd (Cond.static Lib.Math.max.name) := ⟨wsL_law0_r14_in _ (List.mem_of_getElem? (i := 18) rfl), by decide +kernel⟩
theorem lq_14_19 : lgd (Cond.code Lib.Math.max.name Lib.Math.max.code 2 (some .int)) := ⟨wsL_law0_r14_in _ (List.mem_of_getElem? (i := 19) rfl), by decide +kernel⟩
theorem lq_14_20 : lgd (Cond.methodLink RX1 70 yX1_slip) := ⟨wsL_law0_r14_in _ (List.mem_of_getElem? (i := 20) rfl), by decide +kernel⟩
theorem lq_14_21 : lgd (Cond.instanceMethod yX1_slip) := ⟨wsL_law0_r14_in _ (List.mem_of_getElem? (i := 21) rfl), by decide +kernel⟩
theorem lq_14_22 : lgd (Cond.selects RX1 yX1_slip yX1_slip) := ⟨wsL_law0_r14_in _ (List.mem_of_getElem? (i := 22) rfl), by decide +kernel⟩
theorem lq_14_23 : lgd (Cond.code yX1_slip cX1_slip 3 none) := ⟨wsL_law0_r14_in _ (List.mem_of_getElem? (i := 23) rfl), by decide +kernel⟩
theorem lq_15_0 : lgd (Cond.methodLink RX1 81 Lib.Math.min.name) := ⟨wsL_law0_r15_in _ (List.mem_of_getElem? (i := 0) rfl), by decide +kernel⟩
theorem lq_15_1 : lgd (Cond.methodLink RX1 74 yX1_swell) := ⟨wsL_law0_r15_in _ (List.mem_of_getElem? (i := 1) rfl), by decide +kernel⟩
theorem lq_15_2 : lgd (Cond.instanceMethod yX1_swell) := ⟨wsL_law0_r15_in _ (List.mem_of_getElem? (i := 2) rfl), by decide +kernel⟩
theorem lq_15_3 : lgd (Cond.selects RX1 yX1_swell yX1_swell) := ⟨wsL_law0_r15_in _ (List.mem_of_getElem? (i := 3) rfl), by decide +kernel⟩
theorem lq_15_4 : lgd (Cond.code yX1_swell cX1_swell 2 none) := ⟨wsL_law0_r15_in _ (List.mem_of_getElem? (i := 4) rfl), by decide +kernel⟩
theorem lq_15_5 : lgd (Cond.methodLink RL 105 yX3_pass) := ⟨wsL_law0_r15_in _ (List.mem_of_getElem? (i := 5) rfl), by decide +kernel⟩
theorem lq_15_6 : lgd (Cond.instanceMethod yX3_pass) := ⟨wsL_law0_r15_in _ (List.mem_of_getElem? (i := 6) rfl), by decide +kernel⟩
theorem lq_15_7 : lgd (Cond.selects RX3 yX3_pass yX3_pass) := ⟨wsL_law0_r15_in _ (List.mem_of_getElem? (i := 7) rfl), by decide +kernel⟩
theorem lq_15_8 : lgd (Cond.code yX3_pass cX3_pass 4 (some .int)) := ⟨wsL_law0_r15_in _ (List.mem_of_getElem? (i := 8) rfl), by decide +kernel⟩
theorem lq_15_9 : lgd (Cond.methodLink RX3 99 yX3_hourOn_) := ⟨wsL_law0_r15_in _ (List.mem_of_getElem? (i := 9) rfl), by decide +kernel⟩
theorem lq_15_10 : lgd (Cond.instanceMethod yX3_hourOn_) := ⟨wsL_law0_r15_in _ (List.mem_of_getElem? (i := 10) rfl), by decide +kernel⟩
theorem lq_15_11 : lgd (Cond.selects RX3 yX3_hourOn_ yX3_hourOn_) := ⟨wsL_law0_r15_in _ (List.mem_of_getElem? (i := 11) rfl), by decide +kernel⟩
theorem lq_15_12 : lgd (Cond.code yX3_hourOn_ cX3_hourOn_ 1 (some .int)) := ⟨wsL_law0_r15_in _ (List.mem_of_getElem? (i := 12) rfl), by decide +kernel⟩
theorem lq_15_13 : lgd (Cond.methodLink RX3 96 yX3_hourOn) := ⟨wsL_law0_r15_in _ (List.mem_of_getElem? (i := 13) rfl), by decide +kernel⟩
theorem lq_15_14 : lgd (Cond.instanceMethod yX3_hourOn) := ⟨wsL_law0_r15_in _ (List.mem_of_getElem? (i := 14) rfl), by decide +kernel⟩
theorem lq_15_15 : lgd (Cond.selects RX3 yX3_hourOn yX3_hourOn) := ⟨wsL_law0_r15_in _ (List.mem_of_getElem? (i := 15) rfl), by decide +kernel⟩
theorem lq_15_16 : lgd (Cond.code yX3_hourOn cX3_hourOn 6 (some .int)) := ⟨wsL_law0_r15_in _ (List.mem_of_getElem? (i := 16) rfl), by decide +kernel⟩
theorem lq_15_17 : lgd (Cond.methodLink RX3 90 Lib.Math.max.name) := ⟨wsL_law0_r15_in _ (List.mem_of_getElem? (i := 17) rfl), by decide +kernel⟩
theorem lq_15_18 : lgd (Cond.methodLink RX3 93 Lib.Math.min.name) := ⟨wsL_law0_r15_in _ (List.mem_of_getElem? (i := 18) rfl), by decide +kernel⟩
theorem lq_15_19 : lgd (Cond.methodLink RX3 102 yJ6_bitCount_0f7a4) := ⟨wsL_law0_r15_in _ (List.mem_of_getElem? (i := 19) rfl), by decide +kernel⟩
theorem lq_15_20 : lgd (Cond.static yJ6_bitCount_0f7a4) := ⟨wsL_law0_r15_in _ (List.mem_of_getElem? (i := 20) rfl), by decide +kernel⟩
theorem lq_15_21 : lgd (Cond.initialized RJ6) := ⟨wsL_law0_r15_in _ (List.mem_of_getElem? (i := 21) rfl), by decide +kernel⟩
theorem lq_15_22 : lgd (Cond.code yJ6_bitCount_0f7a4 cJ6_bitCount_0f7a4 1 (some .int)) := ⟨wsL_law0_r15_in _ (List.mem_of_getElem? (i := 22) rfl), by decide +kernel⟩
theorem lq_15_23 : lgd (Cond.constant RJ6 265 (1431655765)) := ⟨wsL_law0_r15_in _ (List.mem_of_getElem? (i := 23) rfl), by decide +kernel⟩
theorem lq_16_0 : lgd (Cond.constant RJ6 266 (858993459)) := ⟨wsL_law0_r16_in _ (List.mem_of_getElem? (i := 0) rfl), by decide +kernel⟩
theorem lq_16_1 : lgd (Cond.constant RJ6 267 (252645135)) := ⟨wsL_law0_r16_in _ (List.mem_of_getElem? (i := 1) rfl), by decide +kernel⟩
theorem lq_16_2 : lgd (Cond.methodLink RL 106 yL_count) := ⟨wsL_law0_r16_in _ (List.mem_of_getElem? (i := 2) rfl), by decide +kernel⟩
theorem lq_16_3 : lgd (Cond.static yL_count) := ⟨wsL_law0_r16_in _ (List.mem_of_getElem? (i := 3) rfl), by decide +kernel⟩
theorem lq_16_4 : lgd (Cond.codeWith yL_count cL_count 4 (some .int) [(0, 9, 12, 13)]) := ⟨wsL_law0_r16_in _ (List.mem_of_getElem? (i := 4) rfl), by decide +kernel⟩
theorem lq_16_5 : lgd (Cond.methodLink RL 50 yX2_count) := ⟨wsL_law0_r16_in _ (List.mem_of_getElem? (i := 5) rfl), by decide +kernel⟩
theorem lq_16_6 : lgd (Cond.instanceMethod yX2_count) := ⟨wsL_law0_r16_in _ (List.mem_of_getElem? (i := 6) rfl), by decide +kernel⟩
theorem lq_16_7 : lgd (Cond.selects RX2 yX2_count yX2_count) := ⟨wsL_law0_r16_in _ (List.mem_of_getElem? (i := 7) rfl), by decide +kernel⟩
theorem lq_16_8 : lgd (Cond.code yX2_count cX2_count 2 (some .int)) := ⟨wsL_law0_r16_in _ (List.mem_of_getElem? (i := 8) rfl), by decide +kernel⟩
theorem lq_16_9 : lgd (Cond.methodLink RX2 140 yX2_countOf) := ⟨wsL_law0_r16_in _ (List.mem_of_getElem? (i := 9) rfl), by decide +kernel⟩
theorem lq_16_10 : lgd (Cond.instanceMethod yX2_countOf) := ⟨wsL_law0_r16_in _ (List.mem_of_getElem? (i := 10) rfl), by decide +kernel⟩
theorem lq_16_11 : lgd (Cond.selects RX2 yX2_countOf yX2_countOf) := ⟨wsL_law0_r16_in _ (List.mem_of_getElem? (i := 11) rfl), by decide +kernel⟩
theorem lq_16_12 : lgd (Cond.code yX2_countOf cX2_countOf 2 (some .int)) := ⟨wsL_law0_r16_in _ (List.mem_of_getElem? (i := 12) rfl), by decide +kernel⟩
theorem lq_16_13 : lgd (Cond.fieldLink RX2 184 "WedgeHarps$Harp" "hour" "I") := ⟨wsL_law0_r16_in _ (List.mem_of_getElem? (i := 13) rfl), by decide +kernel⟩
theorem lq_16_14 : lgd (Cond.fieldLink RX2 190 "WedgeHarps$Harp" "swelling" "I") := ⟨wsL_law0_r16_in _ (List.mem_of_getElem? (i := 14) rfl), by decide +kernel⟩
theorem lq_16_15 : lgd (Cond.fieldLink RX2 197 "WedgeHarps$Harp" "strain" "[I") := ⟨wsL_law0_r16_in _ (List.mem_of_getElem? (i := 15) rfl), by decide +kernel⟩
theorem lq_16_16 : lgd (Cond.fieldLink RX2 200 "WedgeHarps$Harp" "breaks" "[I") := ⟨wsL_law0_r16_in _ (List.mem_of_getElem? (i := 16) rfl), by decide +kernel⟩
theorem lq_16_17 : lgd (Cond.methodLink RX2 160 yX1_wholeStrings) := ⟨wsL_law0_r16_in _ (List.mem_of_getElem? (i := 17) rfl), by decide +kernel⟩
theorem lq_16_18 : lgd (Cond.instanceMethod yX1_wholeStrings) := ⟨wsL_law0_r16_in _ (List.mem_of_getElem? (i := 18) rfl), by decide +kernel⟩
theorem lq_16_19 : lgd (Cond.selects RX1 yX1_wholeStrings yX1_wholeStrings) := ⟨wsL_law0_r16_in _ (List.mem_of_getElem? (i := 19) rfl), by decide +kernel⟩
theorem lq_16_20 : lgd (Cond.code yX1_wholeStrings cX1_wholeStrings 3 (some .int)) := ⟨wsL_law0_r16_in _ (List.mem_of_getElem? (i := 20) rfl), by decide +kernel⟩
theorem lq_16_21 : lgd (Cond.methodLink RX2 187 yX2_soundingChords) := ⟨wsL_law0_r16_in _ (List.mem_of_getElem? (i := 21) rfl), by decide +kernel⟩
theorem lq_16_22 : lgd (Cond.instanceMethod yX2_soundingChords) := ⟨wsL_law0_r16_in _ (List.mem_of_getElem? (i := 22) rfl), by decide +kernel⟩
theorem lq_16_23 : lgd (Cond.selects RX2 yX2_soundingChords yX2_soundingChords) := ⟨wsL_law0_r16_in _ (List.mem_of_getElem? (i := 23) rfl), by decide +kernel⟩
theorem lq_17_0 : lgd (Cond.code yX2_soundingChords cX2_soundingChords 3 (some .int)) := ⟨wsL_law0_r17_in _ (List.mem_of_getElem? (i := 0) rfl), by decide +kernel⟩
theorem lq_17_1 : lgd (Cond.methodLink RX2 193 yX2_sumOf) := ⟨wsL_law0_r17_in _ (List.mem_of_getElem? (i := 1) rfl), by decide +kernel⟩
theorem lq_17_2 : lgd (Cond.static yX2_sumOf) := ⟨wsL_law0_r17_in _ (List.mem_of_getElem? (i := 2) rfl), by decide +kernel⟩
theorem lq_17_3 : lgd (Cond.code yX2_sumOf cX2_sumOf 6 (some .int)) := ⟨wsL_law0_r17_in _ (List.mem_of_getElem? (i := 3) rfl), by decide +kernel⟩
theorem lq_17_4 : lgd (Cond.methodLink RL 108 yX3_count) := ⟨wsL_law0_r17_in _ (List.mem_of_getElem? (i := 4) rfl), by decide +kernel⟩
theorem lq_17_5 : lgd (Cond.instanceMethod yX3_count) := ⟨wsL_law0_r17_in _ (List.mem_of_getElem? (i := 5) rfl), by decide +kernel⟩
theorem lq_17_6 : lgd (Cond.selects RX3 yX3_count yX3_count) := ⟨wsL_law0_r17_in _ (List.mem_of_getElem? (i := 6) rfl), by decide +kernel⟩
theorem lq_17_7 : lgd (Cond.code yX3_count cX3_count 2 (some .int)) := ⟨wsL_law0_r17_in _ (List.mem_of_getElem? (i := 7) rfl), by decide +kernel⟩
theorem lq_17_8 : lgd (Cond.methodLink RX3 107 yX3_counted) := ⟨wsL_law0_r17_in _ (List.mem_of_getElem? (i := 8) rfl), by decide +kernel⟩
theorem lq_17_9 : lgd (Cond.instanceMethod yX3_counted) := ⟨wsL_law0_r17_in _ (List.mem_of_getElem? (i := 9) rfl), by decide +kernel⟩
theorem lq_17_10 : lgd (Cond.selects RX3 yX3_counted yX3_counted) := ⟨wsL_law0_r17_in _ (List.mem_of_getElem? (i := 10) rfl), by decide +kernel⟩
theorem lq_17_11 : lgd (Cond.code yX3_counted cX3_counted 5 (some .int)) := ⟨wsL_law0_r17_in _ (List.mem_of_getElem? (i := 11) rfl), by decide +kernel⟩
theorem lq_17_12 : lgd (Cond.methodLink RL 109 yL_bears) := ⟨wsL_law0_r17_in _ (List.mem_of_getElem? (i := 12) rfl), by decide +kernel⟩
theorem lq_17_13 : lgd (Cond.static yL_bears) := ⟨wsL_law0_r17_in _ (List.mem_of_getElem? (i := 13) rfl), by decide +kernel⟩
theorem lq_17_14 : lgd (Cond.codeWith yL_bears cL_bears 4 (some .int) [(0, 9, 12, 13)]) := ⟨wsL_law0_r17_in _ (List.mem_of_getElem? (i := 14) rfl), by decide +kernel⟩
theorem lq_17_15 : lgd (Cond.methodLink RL 53 yX2_bears) := ⟨wsL_law0_r17_in _ (List.mem_of_getElem? (i := 15) rfl), by decide +kernel⟩
theorem lq_17_16 : lgd (Cond.instanceMethod yX2_bears) := ⟨wsL_law0_r17_in _ (List.mem_of_getElem? (i := 16) rfl), by decide +kernel⟩
theorem lq_17_17 : lgd (Cond.selects RX2 yX2_bears yX2_bears) := ⟨wsL_law0_r17_in _ (List.mem_of_getElem? (i := 17) rfl), by decide +kernel⟩
theorem lq_17_18 : lgd (Cond.code yX2_bears cX2_bears 3 (some .int)) := ⟨wsL_law0_r17_in _ (List.mem_of_getElem? (i := 18) rfl), by decide +kernel⟩
theorem lq_17_19 : lgd (Cond.methodLink RX2 143 yX2_withstands) := ⟨wsL_law0_r17_in _ (List.mem_of_getElem? (i := 19) rfl), by decide +kernel⟩
theorem lq_17_20 : lgd (Cond.instanceMethod yX2_withstands) := ⟨wsL_law0_r17_in _ (List.mem_of_getElem? (i := 20) rfl), by decide +kernel⟩
theorem lq_17_21 : lgd (Cond.selects RX2 yX2_withstands yX2_withstands) := ⟨wsL_law0_r17_in _ (List.mem_of_getElem? (i := 21) rfl), by decide +kernel⟩
theorem lq_17_22 : lgd (Cond.code yX2_withstands cX2_withstands 4 (some .boolean)) := ⟨wsL_law0_r17_in _ (List.mem_of_getElem? (i := 22) rfl), by decide +kernel⟩
theorem lq_17_23 : lgd (Cond.methodLink RX2 146 yX1_copy) := ⟨wsL_law0_r17_in _ (List.mem_of_getElem? (i := 23) rfl), by decide +kernel⟩
theorem lq_18_0 : lgd (Cond.instanceMethod yX1_copy) := ⟨wsL_law0_r18_in _ (List.mem_of_getElem? (i := 0) rfl), by decide +kernel⟩
theorem lq_18_1 : lgd (Cond.selects RX1 yX1_copy yX1_copy) := ⟨wsL_law0_r18_in _ (List.mem_of_getElem? (i := 1) rfl), by decide +kernel⟩
theorem lq_18_2 : lgd (Cond.code yX1_copy cX1_copy 3 none) := ⟨wsL_law0_r18_in _ (List.mem_of_getElem? (i := 2) rfl), by decide +kernel⟩
theorem lq_18_3 : lgd (Cond.methodLink RL 111 yX3_bears) := ⟨wsL_law0_r18_in _ (List.mem_of_getElem? (i := 3) rfl), by decide +kernel⟩
theorem lq_18_4 : lgd (Cond.instanceMethod yX3_bears) := ⟨wsL_law0_r18_in _ (List.mem_of_getElem? (i := 4) rfl), by decide +kernel⟩
theorem lq_18_5 : lgd (Cond.selects RX3 yX3_bears yX3_bears) := ⟨wsL_law0_r18_in _ (List.mem_of_getElem? (i := 5) rfl), by decide +kernel⟩
theorem lq_18_6 : lgd (Cond.code yX3_bears cX3_bears 6 (some .int)) := ⟨wsL_law0_r18_in _ (List.mem_of_getElem? (i := 6) rfl), by decide +kernel⟩
theorem lq_18_7 : lgd (Cond.methodLink RX3 115 yX3_kept) := ⟨wsL_law0_r18_in _ (List.mem_of_getElem? (i := 7) rfl), by decide +kernel⟩
theorem lq_18_8 : lgd (Cond.instanceMethod yX3_kept) := ⟨wsL_law0_r18_in _ (List.mem_of_getElem? (i := 8) rfl), by decide +kernel⟩
theorem lq_18_9 : lgd (Cond.selects RX3 yX3_kept yX3_kept) := ⟨wsL_law0_r18_in _ (List.mem_of_getElem? (i := 9) rfl), by decide +kernel⟩
theorem lq_18_10 : lgd (Cond.code yX3_kept cX3_kept 1 (some (.array (.array .int)))) := ⟨wsL_law0_r18_in _ (List.mem_of_getElem? (i := 10) rfl), by decide +kernel⟩
theorem lq_18_11 : lgd (Cond.classLink RX3 110 "[I") := ⟨wsL_law0_r18_in _ (List.mem_of_getElem? (i := 11) rfl), by decide +kernel⟩
theorem lq_18_12 : lgd (Cond.methodLink RX3 111 ⟨"[I", "clone", "()Ljava/lang/Object;"⟩) := ⟨wsL_law0_r18_in _ (List.mem_of_getElem? (i := 12) rfl), by decide +kernel⟩
theorem lq_18_13 : lgd (Cond.sameMethod "[I" "java/lang/Object" "clone" "()Ljava/lang/Object;") := ⟨wsL_law0_r18_in _ (List.mem_of_getElem? (i := 13) rfl), by decide +kernel⟩
theorem lq_18_14 : lgd (Cond.native ⟨"java/lang/Object", "clone", "()Ljava/lang/Object;"⟩) := ⟨wsL_law0_r18_in _ (List.mem_of_getElem? (i := 14) rfl), by decide +kernel⟩
theorem lq_18_15 : lgd (Cond.instanceMethod ⟨"java/lang/Object", "clone", "()Ljava/lang/Object;"⟩) := ⟨wsL_law0_r18_in _ (List.mem_of_getElem? (i := 15) rfl), by decide +kernel⟩
theorem lq_18_16 : lgd (Cond.selects "[I" ⟨"[I", "clone", "()Ljava/lang/Object;"⟩ ⟨"java/lang/Object", "clone", "()Ljava/lang/Object;"⟩) := ⟨wsL_law0_r18_in _ (List.mem_of_getElem? (i := 16) rfl), by decide +kernel⟩
theorem lq_18_17 : lgd (Cond.methodLink RX3 119 yX3_bringBack) := ⟨wsL_law0_r18_in _ (List.mem_of_getElem? (i := 17) rfl), by decide +kernel⟩
theorem lq_18_18 : lgd (Cond.instanceMethod yX3_bringBack) := ⟨wsL_law0_r18_in _ (List.mem_of_getElem? (i := 18) rfl), by decide +kernel⟩
theorem lq_18_19 : lgd (Cond.selects RX3 yX3_bringBack yX3_bringBack) := ⟨wsL_law0_r18_in _ (List.mem_of_getElem? (i := 19) rfl), by decide +kernel⟩
theorem lq_18_20 : lgd (Cond.code yX3_bringBack cX3_bringBack 2 none) := ⟨wsL_law0_r18_in _ (List.mem_of_getElem? (i := 20) rfl), by decide +kernel⟩
theorem lq_18_21 : lgd (Cond.methodLink RL 112 yX2_first) := ⟨wsL_law0_r18_in _ (List.mem_of_getElem? (i := 21) rfl), by decide +kernel⟩
theorem lq_18_22 : lgd (Cond.instanceMethod yX2_first) := ⟨wsL_law0_r18_in _ (List.mem_of_getElem? (i := 22) rfl), by decide +kernel⟩
theorem lq_18_23 : lgd (Cond.selects RX2 yX2_first yX2_first) := ⟨wsL_law0_r18_in _ (List.mem_of_getElem? (i := 23) rfl), by decide +kernel⟩
theorem lq_19_0 : lgd (Cond.code yX2_first cX2_first 2 (some .int)) := ⟨wsL_law0_r19_in _ (List.mem_of_getElem? (i := 0) rfl), by decide +kernel⟩
theorem lq_19_1 : lgd (Cond.methodLink RX2 150 yX2_lowestToBreak) := ⟨wsL_law0_r19_in _ (List.mem_of_getElem? (i := 1) rfl), by decide +kernel⟩
theorem lq_19_2 : lgd (Cond.instanceMethod yX2_lowestToBreak) := ⟨wsL_law0_r19_in _ (List.mem_of_getElem? (i := 2) rfl), by decide +kernel⟩
theorem lq_19_3 : lgd (Cond.selects RX2 yX2_lowestToBreak yX2_lowestToBreak) := ⟨wsL_law0_r19_in _ (List.mem_of_getElem? (i := 3) rfl), by decide +kernel⟩
theorem lq_19_4 : lgd (Cond.code yX2_lowestToBreak cX2_lowestToBreak 2 (some .int)) := ⟨wsL_law0_r19_in _ (List.mem_of_getElem? (i := 4) rfl), by decide +kernel⟩
theorem lq_19_5 : lgd (Cond.methodLink RL 115 yX3_first) := ⟨wsL_law0_r19_in _ (List.mem_of_getElem? (i := 5) rfl), by decide +kernel⟩
theorem lq_19_6 : lgd (Cond.instanceMethod yX3_first) := ⟨wsL_law0_r19_in _ (List.mem_of_getElem? (i := 6) rfl), by decide +kernel⟩
theorem lq_19_7 : lgd (Cond.selects RX3 yX3_first yX3_first) := ⟨wsL_law0_r19_in _ (List.mem_of_getElem? (i := 7) rfl), by decide +kernel⟩
theorem lq_19_8 : lgd (Cond.code yX3_first cX3_first 4 (some .int)) := ⟨wsL_law0_r19_in _ (List.mem_of_getElem? (i := 8) rfl), by decide +kernel⟩
theorem lq_19_9 : lgd (Cond.methodLink RX3 123 yJ6_numberOfTrailingZeros_0f7a4) := ⟨wsL_law0_r19_in _ (List.mem_of_getElem? (i := 9) rfl), by decide +kernel⟩
theorem lq_19_10 : lgd (Cond.static yJ6_numberOfTrailingZeros_0f7a4) := ⟨wsL_law0_r19_in _ (List.mem_of_getElem? (i := 10) rfl), by decide +kernel⟩
theorem lq_19_11 : lgd (Cond.code yJ6_numberOfTrailingZeros_0f7a4 cJ6_numberOfTrailingZeros_0f7a4 2 (some .int)) := ⟨wsL_law0_r19_in _ (List.mem_of_getElem? (i := 11) rfl), by decide +kernel⟩
theorem lq_19_12 : lgd (Cond.constant RJ6 264 (65536)) := ⟨wsL_law0_r19_in _ (List.mem_of_getElem? (i := 12) rfl), by decide +kernel⟩
theorem lq_19_13 : lgd (Cond.methodLink RL 116 yL_holds) := ⟨wsL_law0_r19_in _ (List.mem_of_getElem? (i := 13) rfl), by decide +kernel⟩
theorem lq_19_14 : lgd (Cond.static yL_holds) := ⟨wsL_law0_r19_in _ (List.mem_of_getElem? (i := 14) rfl), by decide +kernel⟩
theorem lq_19_15 : lgd (Cond.codeWith yL_holds cL_holds 4 (some .int) [(0, 9, 12, 13)]) := ⟨wsL_law0_r19_in _ (List.mem_of_getElem? (i := 15) rfl), by decide +kernel⟩
theorem lq_19_16 : lgd (Cond.methodLink RL 56 yX2_holds) := ⟨wsL_law0_r19_in _ (List.mem_of_getElem? (i := 16) rfl), by decide +kernel⟩
theorem lq_19_17 : lgd (Cond.instanceMethod yX2_holds) := ⟨wsL_law0_r19_in _ (List.mem_of_getElem? (i := 17) rfl), by decide +kernel⟩
theorem lq_19_18 : lgd (Cond.selects RX2 yX2_holds yX2_holds) := ⟨wsL_law0_r19_in _ (List.mem_of_getElem? (i := 18) rfl), by decide +kernel⟩
theorem lq_19_19 : lgd (Cond.code yX2_holds cX2_holds 4 (some .int)) := ⟨wsL_law0_r19_in _ (List.mem_of_getElem? (i := 19) rfl), by decide +kernel⟩
theorem lq_19_20 : lgd (Cond.methodLink RL 118 yX3_holds) := ⟨wsL_law0_r19_in _ (List.mem_of_getElem? (i := 20) rfl), by decide +kernel⟩
theorem lq_19_21 : lgd (Cond.instanceMethod yX3_holds) := ⟨wsL_law0_r19_in _ (List.mem_of_getElem? (i := 21) rfl), by decide +kernel⟩
theorem lq_19_22 : lgd (Cond.selects RX3 yX3_holds yX3_holds) := ⟨wsL_law0_r19_in _ (List.mem_of_getElem? (i := 22) rfl), by decide +kernel⟩
theorem lq_19_23 : lgd (Cond.code yX3_holds cX3_holds 4 (some .int)) := ⟨wsL_law0_r19_in _ (List.mem_of_getElem? (i := 23) rfl), by decide +kernel⟩
theorem lq_20_0 : lgd (Cond.methodLink RL 119 yL_foresee) := ⟨wsL_law0_r20_in _ (List.mem_of_getElem? (i := 0) rfl), by decide +kernel⟩
theorem lq_20_1 : lgd (Cond.static yL_foresee) := ⟨wsL_law0_r20_in _ (List.mem_of_getElem? (i := 1) rfl), by decide +kernel⟩
theorem lq_20_2 : lgd (Cond.codeWith yL_foresee cL_foresee 5 (some .int) [(0, 10, 13, 15), (0, 10, 17, 13)]) := ⟨wsL_law0_r20_in _ (List.mem_of_getElem? (i := 2) rfl), by decide +kernel⟩
theorem lq_20_3 : lgd (Cond.methodLink RL 59 yX2_foresee) := ⟨wsL_law0_r20_in _ (List.mem_of_getElem? (i := 3) rfl), by decide +kernel⟩
theorem lq_20_4 : lgd (Cond.instanceMethod yX2_foresee) := ⟨wsL_law0_r20_in _ (List.mem_of_getElem? (i := 4) rfl), by decide +kernel⟩
theorem lq_20_5 : lgd (Cond.selects RX2 yX2_foresee yX2_foresee) := ⟨wsL_law0_r20_in _ (List.mem_of_getElem? (i := 5) rfl), by decide +kernel⟩
theorem lq_20_6 : lgd (Cond.code yX2_foresee cX2_foresee 4 (some .int)) := ⟨wsL_law0_r20_in _ (List.mem_of_getElem? (i := 6) rfl), by decide +kernel⟩
theorem lq_20_7 : lgd (Cond.methodLink RL 121 yX3_foresee) := ⟨wsL_law0_r20_in _ (List.mem_of_getElem? (i := 7) rfl), by decide +kernel⟩
theorem lq_20_8 : lgd (Cond.instanceMethod yX3_foresee) := ⟨wsL_law0_r20_in _ (List.mem_of_getElem? (i := 8) rfl), by decide +kernel⟩
theorem lq_20_9 : lgd (Cond.selects RX3 yX3_foresee yX3_foresee) := ⟨wsL_law0_r20_in _ (List.mem_of_getElem? (i := 9) rfl), by decide +kernel⟩
theorem lq_20_10 : lgd (Cond.code yX3_foresee cX3_foresee 5 (some .int)) := ⟨wsL_law0_r20_in _ (List.mem_of_getElem? (i := 10) rfl), by decide +kernel⟩
theorem lq_20_11 : lgd (Cond.methodLink RL 122 yX2_mean) := ⟨wsL_law0_r20_in _ (List.mem_of_getElem? (i := 11) rfl), by decide +kernel⟩
theorem lq_20_12 : lgd (Cond.instanceMethod yX2_mean) := ⟨wsL_law0_r20_in _ (List.mem_of_getElem? (i := 12) rfl), by decide +kernel⟩
theorem lq_20_13 : lgd (Cond.selects RX2 yX2_mean yX2_mean) := ⟨wsL_law0_r20_in _ (List.mem_of_getElem? (i := 13) rfl), by decide +kernel⟩
theorem lq_20_14 : lgd (Cond.code yX2_mean cX2_mean 2 (some .double)) := ⟨wsL_law0_r20_in _ (List.mem_of_getElem? (i := 14) rfl), by decide +kernel⟩
theorem lq_20_15 : lgd (Cond.methodLink RX2 163 yX1_sumOfTones) := ⟨wsL_law0_r20_in _ (List.mem_of_getElem? (i := 15) rfl), by decide +kernel⟩
theorem lq_20_16 : lgd (Cond.instanceMethod yX1_sumOfTones) := ⟨wsL_law0_r20_in _ (List.mem_of_getElem? (i := 16) rfl), by decide +kernel⟩
theorem lq_20_17 : lgd (Cond.selects RX1 yX1_sumOfTones yX1_sumOfTones) := ⟨wsL_law0_r20_in _ (List.mem_of_getElem? (i := 17) rfl), by decide +kernel⟩
theorem lq_20_18 : lgd (Cond.code yX1_sumOfTones cX1_sumOfTones 3 (some .int)) := ⟨wsL_law0_r20_in _ (List.mem_of_getElem? (i := 18) rfl), by decide +kernel⟩
theorem lq_20_19 : lgd (Cond.methodLink RL 126 yX3_mean) := ⟨wsL_law0_r20_in _ (List.mem_of_getElem? (i := 19) rfl), by decide +kernel⟩
theorem lq_20_20 : lgd (Cond.instanceMethod yX3_mean) := ⟨wsL_law0_r20_in _ (List.mem_of_getElem? (i := 20) rfl), by decide +kernel⟩
theorem lq_20_21 : lgd (Cond.selects RX3 yX3_mean yX3_mean) := ⟨wsL_law0_r20_in _ (List.mem_of_getElem? (i := 21) rfl), by decide +kernel⟩
theorem lq_20_22 : lgd (Cond.code yX3_mean cX3_mean 3 (some .double)) := ⟨wsL_law0_r20_in _ (List.mem_of_getElem? (i := 22) rfl), by decide +kernel⟩
theorem lq_20_23 : lgd (Cond.methodLink RL 127 yX2_digest) := ⟨wsL_law0_r20_in _ (List.mem_of_getElem? (i := 23) rfl), by decide +kernel⟩
theorem lq_21_0 : lgd (Cond.instanceMethod yX2_digest) := ⟨wsL_law0_r21_in _ (List.mem_of_getElem? (i := 0) rfl), by decide +kernel⟩
theorem lq_21_1 : lgd (Cond.selects RX2 yX2_digest yX2_digest) := ⟨wsL_law0_r21_in _ (List.mem_of_getElem? (i := 1) rfl), by decide +kernel⟩
theorem lq_21_2 : lgd (Cond.code yX2_digest cX2_digest 5 (some .long)) := ⟨wsL_law0_r21_in _ (List.mem_of_getElem? (i := 2) rfl), by decide +kernel⟩
theorem lq_21_3 : lgd (Cond.constantLong RX2 166 (947)) := ⟨wsL_law0_r21_in _ (List.mem_of_getElem? (i := 3) rfl), by decide +kernel⟩
theorem lq_21_4 : lgd (Cond.constantLong RX2 168 (31)) := ⟨wsL_law0_r21_in _ (List.mem_of_getElem? (i := 4) rfl), by decide +kernel⟩
theorem lq_21_5 : lgd (Cond.methodLink RX2 170 yX2_digestWith) := ⟨wsL_law0_r21_in _ (List.mem_of_getElem? (i := 5) rfl), by decide +kernel⟩
theorem lq_21_6 : lgd (Cond.instanceMethod yX2_digestWith) := ⟨wsL_law0_r21_in _ (List.mem_of_getElem? (i := 6) rfl), by decide +kernel⟩
theorem lq_21_7 : lgd (Cond.selects RX2 yX2_digestWith yX2_digestWith) := ⟨wsL_law0_r21_in _ (List.mem_of_getElem? (i := 7) rfl), by decide +kernel⟩
theorem lq_21_8 : lgd (Cond.code yX2_digestWith cX2_digestWith 7 (some .long)) := ⟨wsL_law0_r21_in _ (List.mem_of_getElem? (i := 8) rfl), by decide +kernel⟩
theorem lq_21_9 : lgd (Cond.fieldLink RX2 203 "WedgeHarps$Chord" "tones" "[I") := ⟨wsL_law0_r21_in _ (List.mem_of_getElem? (i := 9) rfl), by decide +kernel⟩
theorem lq_21_10 : lgd (Cond.methodLink RL 131 yX3_digest) := ⟨wsL_law0_r21_in _ (List.mem_of_getElem? (i := 10) rfl), by decide +kernel⟩
theorem lq_21_11 : lgd (Cond.instanceMethod yX3_digest) := ⟨wsL_law0_r21_in _ (List.mem_of_getElem? (i := 11) rfl), by decide +kernel⟩
theorem lq_21_12 : lgd (Cond.selects RX3 yX3_digest yX3_digest) := ⟨wsL_law0_r21_in _ (List.mem_of_getElem? (i := 12) rfl), by decide +kernel⟩
theorem lq_21_13 : lgd (Cond.code yX3_digest cX3_digest 5 (some .long)) := ⟨wsL_law0_r21_in _ (List.mem_of_getElem? (i := 13) rfl), by decide +kernel⟩
theorem lq_21_14 : lgd (Cond.constantLong RX3 126 (947)) := ⟨wsL_law0_r21_in _ (List.mem_of_getElem? (i := 14) rfl), by decide +kernel⟩
theorem lq_21_15 : lgd (Cond.constantLong RX3 128 (31)) := ⟨wsL_law0_r21_in _ (List.mem_of_getElem? (i := 15) rfl), by decide +kernel⟩
theorem lg_wsX00 : GoodIn lw_tbl wsX00 := goodIn_sub wsX00_in9 (by decide +kernel)
theorem lg_wsX10 : GoodIn lw_tbl wsX10 := goodIn_sub wsX10_in9 (by decide +kernel)
theorem lg_wsX20 : GoodIn lw_tbl wsX20 := goodIn_sub wsX20_in9 (by decide +kernel)
theorem lg_wsX30 : GoodIn lw_tbl wsX30 := goodIn_sub wsX30_in9 (by decide +kernel)
theorem lg_v0 : GoodIn lw_tbl ((vx_atS RX2 48 "java/lang/IllegalArgumentException" ["java/lang/RuntimeException", "java/lang/Exception"]).filter goodWord) := goodIn_sub wsL_law_x0 (by decide +kernel)
theorem lg_v1 : GoodIn lw_tbl ((vx_atS RX2 59 "java/lang/IllegalStateException" ["java/lang/RuntimeException", "java/lang/Exception"]).filter goodWord) := goodIn_sub wsL_law_x1 (by decide +kernel)
theorem lg_v2 : GoodIn lw_tbl ((vx_atS RX2 77 "java/lang/IndexOutOfBoundsException" ["java/lang/RuntimeException", "java/lang/Exception"]).filter goodWord) := goodIn_sub wsL_law_x2 (by decide +kernel)
theorem lg_wsX2_init_r1 : GoodIn lw_tbl wsX2_init_r1 := (lg_c lq_1_10 (lg_c lq_1_11 (lg_c lq_1_12 (lg_c lq_1_13 (lg_c lq_1_14 (lg_c lq_1_15 (lg_c lq_1_16 (lg_c lq_1_17 (lg_c lq_1_18 (lg_c lq_1_19 (lg_c lq_1_20 (lg_c lq_1_21 (lg_c lq_1_22 (lg_c lq_1_23 (lg_c lq_2_0 (lg_c lq_2_1 (lg_c lq_2_2 (lg_c lq_2_3 (lg_c lq_2_4 (lg_c lq_2_5 (lg_c lq_2_6 (lg_c lq_2_7 (lg_c lq_2_8 (lg_c lq_2_9 lg_n))))))))))))))))))))))))
theorem lg_wsX2_init_r2 : GoodIn lw_tbl wsX2_init_r2 := (lg_c lq_2_10 (lg_c lq_2_11 (lg_c lq_2_12 (lg_c lq_2_13 (lg_c lq_2_14 (lg_c lq_2_15 (lg_c lq_2_16 (lg_c lq_2_17 (lg_c lq_2_18 (lg_c lq_2_19 (lg_c lq_2_20 (lg_c lq_2_21 lg_n))))))))))))
theorem lg_wsX2_init : GoodIn lw_tbl wsX2_init := (lg_c lq_1_9 (goodIn_app (goodIn_app (goodIn_app (goodIn_app lg_wsX2_init_r1 lg_wsX2_init_r2) lg_wsX10) lg_wsX20) lg_wsX00))
theorem lg_wsX3_init : GoodIn lw_tbl wsX3_init := (lg_c lq_3_0 (goodIn_app (lg_c lq_3_1 (lg_c lq_1_11 (lg_c lq_1_12 (lg_c lq_1_18 (lg_c lq_3_2 (lg_c lq_3_3 (lg_c lq_3_4 (lg_c lq_3_5 (lg_c lq_3_6 (lg_c lq_3_7 (lg_c lq_3_8 (lg_c lq_3_9 (lg_c lq_3_10 (lg_c lq_1_5 (lg_c lq_3_11 lg_n))))))))))))))) lg_wsX30))
theorem lg_wsL_push_r1 : GoodIn lw_tbl wsL_push_r1 := (lg_c lq_3_16 (lg_c lq_3_17 (lg_c lq_3_18 (lg_c lq_3_19 (lg_c lq_3_20 (lg_c lq_3_21 (lg_c lq_1_2 (lg_c lq_3_22 (lg_c lq_3_23 (lg_c lq_4_0 (lg_c lq_4_1 (lg_c lq_4_2 (lg_c lq_1_16 (lg_c lq_4_3 (lg_c lq_4_4 (lg_c lq_4_5 (lg_c lq_4_6 (lg_c lq_4_7 (lg_c lq_4_8 (lg_c lq_4_9 (lg_c lq_4_10 (lg_c lq_4_11 (lg_c lq_4_12 (lg_c lq_4_13 lg_n))))))))))))))))))))))))
theorem lg_wsL_push_r2 : GoodIn lw_tbl wsL_push_r2 := (lg_c lq_4_14 (lg_c lq_1_15 (lg_c lq_4_15 (lg_c lq_2_7 (lg_c lq_4_16 (lg_c lq_4_17 (lg_c lq_4_18 (lg_c lq_4_19 (lg_c lq_2_12 (lg_c lq_2_6 (lg_c lq_2_8 (lg_c lq_2_13 lg_n))))))))))))
theorem lg_wsL_push : GoodIn lw_tbl wsL_push := (lg_c lq_3_15 (goodIn_app (goodIn_app (goodIn_app (goodIn_app (goodIn_app (goodIn_app lg_wsL_push_r1 lg_wsL_push_r2) lg_wsX20) lg_wsX10) lg_v0) lg_v1) lg_v2))
theorem lg_wsX3_push_r1 : GoodIn lw_tbl wsX3_push_r1 := (lg_c lq_5_0 (lg_c lq_5_1 (lg_c lq_5_2 (lg_c lq_1_5 (lg_c lq_5_3 (lg_c lq_5_4 (lg_c lq_5_5 (lg_c lq_5_6 (lg_c lq_5_7 (lg_c lq_5_8 (lg_c lq_5_9 (lg_c lq_5_10 (lg_c lq_5_11 (lg_c lq_5_12 (lg_c lq_5_13 (lg_c lq_5_14 (lg_c lq_3_2 (lg_c lq_3_8 (lg_c lq_3_9 (lg_c lq_3_10 (lg_c lq_3_11 (lg_c lq_5_15 (lg_c lq_5_16 (lg_c lq_5_17 lg_n))))))))))))))))))))))))
theorem lg_wsX3_push_r2 : GoodIn lw_tbl wsX3_push_r2 := (lg_c lq_5_18 (lg_c lq_3_6 (lg_c lq_5_19 (lg_c lq_5_20 (lg_c lq_5_21 (lg_c lq_5_22 (lg_c lq_3_7 lg_n)))))))
theorem lg_wsX3_push : GoodIn lw_tbl wsX3_push := (lg_c lq_4_23 (goodIn_app (goodIn_app lg_wsX3_push_r1 lg_wsX3_push_r2) lg_wsX30))
theorem lg_wsX3_thrown : GoodIn lw_tbl wsX3_thrown := (lg_c lq_6_2 (goodIn_app (lg_c lq_5_0 lg_n) lg_wsX30))
theorem lg_wsL_draw_r1 : GoodIn lw_tbl wsL_draw_r1 := (lg_c lq_3_16 (lg_c lq_3_17 (lg_c lq_6_6 (lg_c lq_6_7 (lg_c lq_6_8 (lg_c lq_1_2 (lg_c lq_6_9 (lg_c lq_3_23 (lg_c lq_4_0 (lg_c lq_1_16 (lg_c lq_4_4 (lg_c lq_4_5 (lg_c lq_4_6 (lg_c lq_4_7 (lg_c lq_4_8 (lg_c lq_6_10 (lg_c lq_6_11 (lg_c lq_6_12 (lg_c lq_1_15 (lg_c lq_6_13 (lg_c lq_2_6 (lg_c lq_2_8 (lg_c lq_2_9 (lg_c lq_2_12 lg_n))))))))))))))))))))))))
theorem lg_wsL_draw_r2 : GoodIn lw_tbl wsL_draw_r2 := (lg_c lq_4_16 (lg_c lq_4_17 (lg_c lq_4_18 (lg_c lq_4_19 (lg_c lq_2_7 (lg_c lq_2_13 lg_n))))))
theorem lg_wsL_draw : GoodIn lw_tbl wsL_draw := (lg_c lq_6_5 (goodIn_app (goodIn_app (goodIn_app (goodIn_app (goodIn_app lg_wsL_draw_r1 lg_wsL_draw_r2) lg_wsX20) lg_wsX10) lg_v0) lg_v2))
theorem lg_wsX3_draw_r1 : GoodIn lw_tbl wsX3_draw_r1 := (lg_c lq_5_0 (lg_c lq_5_1 (lg_c lq_5_2 (lg_c lq_1_5 (lg_c lq_5_3 (lg_c lq_5_4 (lg_c lq_5_5 (lg_c lq_5_6 (lg_c lq_5_7 (lg_c lq_5_8 (lg_c lq_5_9 (lg_c lq_5_10 (lg_c lq_3_8 (lg_c lq_3_9 (lg_c lq_3_10 (lg_c lq_3_11 (lg_c lq_3_2 (lg_c lq_5_15 (lg_c lq_5_16 (lg_c lq_5_17 (lg_c lq_5_18 (lg_c lq_3_6 (lg_c lq_5_11 (lg_c lq_5_12 lg_n))))))))))))))))))))))))
theorem lg_wsX3_draw_r2 : GoodIn lw_tbl wsX3_draw_r2 := (lg_c lq_5_13 (lg_c lq_5_14 (lg_c lq_5_19 (lg_c lq_5_20 (lg_c lq_5_21 (lg_c lq_5_22 (lg_c lq_3_7 lg_n)))))))
theorem lg_wsX3_draw : GoodIn lw_tbl wsX3_draw := (lg_c lq_6_17 (goodIn_app (goodIn_app lg_wsX3_draw_r1 lg_wsX3_draw_r2) lg_wsX30))
theorem lg_wsL_setWeather : GoodIn lw_tbl wsL_setWeather := (lg_c lq_6_20 (goodIn_app (goodIn_app (goodIn_app (lg_c lq_3_16 (lg_c lq_3_17 (lg_c lq_6_21 (lg_c lq_6_22 (lg_c lq_6_23 (lg_c lq_1_2 (lg_c lq_7_0 (lg_c lq_4_7 (lg_c lq_4_8 (lg_c lq_3_23 (lg_c lq_4_0 (lg_c lq_1_19 (lg_c lq_1_20 (lg_c lq_7_1 (lg_c lq_7_2 (lg_c lq_7_3 (lg_c lq_7_4 lg_n))))))))))))))))) lg_wsX20) lg_v2) lg_v0))
theorem lg_wsX3_setWeather : GoodIn lw_tbl wsX3_setWeather := (lg_c lq_7_8 (goodIn_app (lg_c lq_5_0 (lg_c lq_3_4 (lg_c lq_3_5 (lg_c lq_5_4 (lg_c lq_5_5 (lg_c lq_1_5 (lg_c lq_5_6 (lg_c lq_5_7 (lg_c lq_5_8 (lg_c lq_5_9 (lg_c lq_5_10 lg_n))))))))))) lg_wsX30))
theorem lg_wsL_string_r1 : GoodIn lw_tbl wsL_string_r1 := (lg_c lq_3_16 (lg_c lq_7_12 (lg_c lq_7_13 (lg_c lq_7_14 (lg_c lq_1_2 (lg_c lq_7_15 (lg_c lq_4_7 (lg_c lq_4_8 (lg_c lq_1_16 (lg_c lq_4_4 (lg_c lq_4_5 (lg_c lq_4_6 (lg_c lq_7_16 (lg_c lq_7_17 (lg_c lq_7_18 (lg_c lq_1_15 (lg_c lq_7_19 (lg_c lq_2_6 (lg_c lq_2_7 (lg_c lq_2_8 (lg_c lq_2_9 (lg_c lq_2_12 (lg_c lq_2_10 (lg_c lq_7_20 lg_n))))))))))))))))))))))))
theorem lg_wsL_string_r2 : GoodIn lw_tbl wsL_string_r2 := (lg_c lq_4_17 (lg_c lq_4_18 (lg_c lq_4_19 (lg_c lq_2_13 lg_n))))
theorem lg_wsL_string : GoodIn lw_tbl wsL_string := (lg_c lq_7_11 (goodIn_app (goodIn_app (goodIn_app (goodIn_app lg_wsL_string_r1 lg_wsL_string_r2) lg_wsX20) lg_wsX10) lg_v2))
theorem lg_wsX3_string_r1 : GoodIn lw_tbl wsX3_string_r1 := (lg_c lq_5_0 (lg_c lq_5_1 (lg_c lq_5_2 (lg_c lq_1_5 (lg_c lq_5_3 (lg_c lq_5_4 (lg_c lq_5_5 (lg_c lq_5_6 (lg_c lq_8_1 (lg_c lq_8_2 (lg_c lq_8_3 (lg_c lq_8_4 (lg_c lq_5_11 (lg_c lq_5_12 (lg_c lq_5_13 (lg_c lq_5_14 (lg_c lq_3_2 (lg_c lq_5_15 (lg_c lq_5_16 (lg_c lq_5_17 (lg_c lq_5_18 (lg_c lq_3_6 (lg_c lq_5_19 (lg_c lq_5_20 lg_n))))))))))))))))))))))))
theorem lg_wsX3_string_r2 : GoodIn lw_tbl wsX3_string_r2 := (lg_c lq_5_21 (lg_c lq_5_22 (lg_c lq_3_7 (lg_c lq_5_7 (lg_c lq_5_8 (lg_c lq_5_9 (lg_c lq_5_10 lg_n)))))))
theorem lg_wsX3_string : GoodIn lw_tbl wsX3_string := (lg_c lq_8_0 (goodIn_app (goodIn_app lg_wsX3_string_r1 lg_wsX3_string_r2) lg_wsX30))
theorem lg_wsL_moves : GoodIn lw_tbl wsL_moves := (lg_c lq_8_7 (goodIn_app (goodIn_app (goodIn_app (goodIn_app (lg_c lq_3_16 (lg_c lq_3_17 (lg_c lq_8_8 (lg_c lq_8_9 (lg_c lq_8_10 (lg_c lq_1_2 (lg_c lq_8_11 (lg_c lq_1_16 (lg_c lq_8_12 (lg_c lq_8_13 (lg_c lq_8_14 (lg_c lq_8_15 (lg_c lq_8_16 (lg_c lq_4_4 (lg_c lq_4_5 (lg_c lq_4_6 (lg_c lq_4_7 (lg_c lq_4_8 (lg_c lq_4_9 (lg_c lq_4_10 (lg_c lq_4_11 (lg_c lq_3_23 (lg_c lq_4_0 lg_n))))))))))))))))))))))) lg_wsX20) lg_wsX10) lg_v2) lg_v0))
theorem lg_wsX3_moves_r1 : GoodIn lw_tbl wsX3_moves_r1 := (lg_c lq_5_0 (lg_c lq_3_7 (lg_c lq_5_1 (lg_c lq_5_2 (lg_c lq_1_5 (lg_c lq_5_3 (lg_c lq_5_4 (lg_c lq_5_5 (lg_c lq_5_6 (lg_c lq_5_7 (lg_c lq_5_8 (lg_c lq_5_9 (lg_c lq_5_10 (lg_c lq_5_15 (lg_c lq_5_16 (lg_c lq_5_17 (lg_c lq_5_18 (lg_c lq_3_6 (lg_c lq_5_11 (lg_c lq_5_12 (lg_c lq_5_13 (lg_c lq_5_14 (lg_c lq_3_2 (lg_c lq_5_19 lg_n))))))))))))))))))))))))
theorem lg_wsX3_moves_r2 : GoodIn lw_tbl wsX3_moves_r2 := (lg_c lq_5_20 (lg_c lq_5_21 (lg_c lq_5_22 lg_n)))
theorem lg_wsX3_moves : GoodIn lw_tbl wsX3_moves := (lg_c lq_8_20 (goodIn_app (goodIn_app lg_wsX3_moves_r1 lg_wsX3_moves_r2) lg_wsX30))
theorem lg_wsL_chord_r1 : GoodIn lw_tbl wsL_chord_r1 := (lg_c lq_3_16 (lg_c lq_3_17 (lg_c lq_3_18 (lg_c lq_9_0 (lg_c lq_9_1 (lg_c lq_9_2 (lg_c lq_1_2 (lg_c lq_9_3 (lg_c lq_3_23 (lg_c lq_4_0 (lg_c lq_4_1 (lg_c lq_4_2 (lg_c lq_2_1 (lg_c lq_1_22 (lg_c lq_4_4 (lg_c lq_4_5 (lg_c lq_4_6 (lg_c lq_4_7 (lg_c lq_4_8 (lg_c lq_9_4 (lg_c lq_9_5 (lg_c lq_9_6 (lg_c lq_9_7 (lg_c lq_9_8 lg_n))))))))))))))))))))))))
theorem lg_wsL_chord_r2 : GoodIn lw_tbl wsL_chord_r2 := (lg_c lq_9_9 (lg_c lq_2_0 (lg_c lq_9_10 (lg_c lq_2_20 (lg_c lq_2_21 (lg_c lq_9_11 (lg_c lq_9_12 (lg_c lq_9_13 (lg_c lq_9_14 (lg_c lq_2_19 lg_n))))))))))
theorem lg_wsL_chord : GoodIn lw_tbl wsL_chord := (lg_c lq_8_23 (goodIn_app (goodIn_app (goodIn_app (goodIn_app (goodIn_app (goodIn_app lg_wsL_chord_r1 lg_wsL_chord_r2) lg_wsX20) lg_wsX00) lg_v0) lg_v1) lg_v2))
theorem lg_wsX3_chord : GoodIn lw_tbl wsX3_chord := (lg_c lq_9_18 (goodIn_app (lg_c lq_5_0 (lg_c lq_9_19 (lg_c lq_1_18 (lg_c lq_3_3 (lg_c lq_9_20 (lg_c lq_9_21 (lg_c lq_9_22 (lg_c lq_9_23 (lg_c lq_5_1 (lg_c lq_5_2 (lg_c lq_1_5 (lg_c lq_5_3 (lg_c lq_5_4 (lg_c lq_5_5 (lg_c lq_5_6 (lg_c lq_5_7 (lg_c lq_5_8 (lg_c lq_5_9 (lg_c lq_5_10 lg_n))))))))))))))))))) lg_wsX30))
theorem lg_wsL_off_r1 : GoodIn lw_tbl wsL_off_r1 := (lg_c lq_3_16 (lg_c lq_10_3 (lg_c lq_10_4 (lg_c lq_10_5 (lg_c lq_1_2 (lg_c lq_10_6 (lg_c lq_1_16 (lg_c lq_1_22 (lg_c lq_10_7 (lg_c lq_10_8 (lg_c lq_10_9 (lg_c lq_10_10 (lg_c lq_4_7 (lg_c lq_4_8 (lg_c lq_2_1 (lg_c lq_10_11 (lg_c lq_10_12 (lg_c lq_10_13 (lg_c lq_1_15 (lg_c lq_10_14 (lg_c lq_10_15 (lg_c lq_10_16 (lg_c lq_10_17 (lg_c lq_10_18 lg_n))))))))))))))))))))))))
theorem lg_wsL_off_r2 : GoodIn lw_tbl wsL_off_r2 := (lg_c lq_8_14 (lg_c lq_8_15 (lg_c lq_8_16 (lg_c lq_7_20 (lg_c lq_4_17 (lg_c lq_4_18 (lg_c lq_4_19 (lg_c lq_2_12 (lg_c lq_2_7 (lg_c lq_2_6 (lg_c lq_2_8 (lg_c lq_2_13 lg_n))))))))))))
theorem lg_wsL_off : GoodIn lw_tbl wsL_off := (lg_c lq_10_2 (goodIn_app (goodIn_app (goodIn_app (goodIn_app (goodIn_app lg_wsL_off_r1 lg_wsL_off_r2) lg_wsX20) lg_wsX00) lg_wsX10) lg_v2))
theorem lg_wsX3_off_r1 : GoodIn lw_tbl wsX3_off_r1 := (lg_c lq_5_0 (lg_c lq_10_23 (lg_c lq_11_0 (lg_c lq_11_1 (lg_c lq_1_5 (lg_c lq_11_2 (lg_c lq_9_19 (lg_c lq_5_4 (lg_c lq_5_5 (lg_c lq_5_6 (lg_c lq_11_3 (lg_c lq_11_4 (lg_c lq_11_5 (lg_c lq_11_6 (lg_c lq_11_7 (lg_c lq_11_8 (lg_c lq_11_9 (lg_c lq_11_10 (lg_c lq_3_3 (lg_c lq_11_11 (lg_c lq_11_12 (lg_c lq_11_13 (lg_c lq_11_14 (lg_c lq_11_15 lg_n))))))))))))))))))))))))
theorem lg_wsX3_off_r2 : GoodIn lw_tbl wsX3_off_r2 := (lg_c lq_8_14 (lg_c lq_8_15 (lg_c lq_8_16 (lg_c lq_5_15 (lg_c lq_5_16 (lg_c lq_5_17 (lg_c lq_5_18 (lg_c lq_3_6 (lg_c lq_5_11 (lg_c lq_5_12 (lg_c lq_5_13 (lg_c lq_5_14 (lg_c lq_3_2 (lg_c lq_5_19 (lg_c lq_5_20 (lg_c lq_5_21 (lg_c lq_5_22 (lg_c lq_3_7 (lg_c lq_5_1 (lg_c lq_5_2 (lg_c lq_5_3 (lg_c lq_5_7 (lg_c lq_5_8 (lg_c lq_5_9 lg_n))))))))))))))))))))))))
theorem lg_wsX3_off_r3 : GoodIn lw_tbl wsX3_off_r3 := (lg_c lq_5_10 lg_n)
theorem lg_wsX3_off : GoodIn lw_tbl wsX3_off := (lg_c lq_10_22 (goodIn_app (goodIn_app lg_wsX3_off_r1 (goodIn_app lg_wsX3_off_r2 lg_wsX3_off_r3)) lg_wsX30))
theorem lg_wsL_sounds_r1 : GoodIn lw_tbl wsL_sounds_r1 := (lg_c lq_3_16 (lg_c lq_11_19 (lg_c lq_11_20 (lg_c lq_11_21 (lg_c lq_1_2 (lg_c lq_11_22 (lg_c lq_1_16 (lg_c lq_1_22 (lg_c lq_10_7 (lg_c lq_10_8 (lg_c lq_10_9 (lg_c lq_10_10 (lg_c lq_4_7 (lg_c lq_4_8 (lg_c lq_2_1 (lg_c lq_11_23 (lg_c lq_12_0 (lg_c lq_12_1 (lg_c lq_1_15 (lg_c lq_12_2 (lg_c lq_10_15 (lg_c lq_12_3 (lg_c lq_12_4 (lg_c lq_12_5 lg_n))))))))))))))))))))))))
theorem lg_wsL_sounds_r2 : GoodIn lw_tbl wsL_sounds_r2 := (lg_c lq_12_6 (lg_c lq_10_16 (lg_c lq_2_12 (lg_c lq_10_17 (lg_c lq_10_18 (lg_c lq_8_14 (lg_c lq_8_15 (lg_c lq_8_16 (lg_c lq_7_20 (lg_c lq_4_17 (lg_c lq_4_18 (lg_c lq_4_19 (lg_c lq_2_7 (lg_c lq_2_6 (lg_c lq_2_8 (lg_c lq_2_13 lg_n))))))))))))))))
theorem lg_wsL_sounds : GoodIn lw_tbl wsL_sounds := (lg_c lq_11_18 (goodIn_app (goodIn_app (goodIn_app (goodIn_app (goodIn_app lg_wsL_sounds_r1 lg_wsL_sounds_r2) lg_wsX20) lg_wsX00) lg_wsX10) lg_v2))
theorem lg_wsX3_sounds_r1 : GoodIn lw_tbl wsX3_sounds_r1 := (lg_c lq_5_0 (lg_c lq_10_23 (lg_c lq_11_0 (lg_c lq_11_1 (lg_c lq_1_5 (lg_c lq_11_2 (lg_c lq_9_19 (lg_c lq_5_4 (lg_c lq_5_5 (lg_c lq_5_6 (lg_c lq_12_11 (lg_c lq_12_12 (lg_c lq_12_13 (lg_c lq_12_14 (lg_c lq_11_7 (lg_c lq_11_8 (lg_c lq_11_9 (lg_c lq_11_10 (lg_c lq_3_3 (lg_c lq_5_11 (lg_c lq_5_12 (lg_c lq_5_13 (lg_c lq_5_14 (lg_c lq_3_2 lg_n))))))))))))))))))))))))
theorem lg_wsX3_sounds_r2 : GoodIn lw_tbl wsX3_sounds_r2 := (lg_c lq_11_11 (lg_c lq_11_12 (lg_c lq_11_13 (lg_c lq_11_14 (lg_c lq_11_15 (lg_c lq_8_14 (lg_c lq_8_15 (lg_c lq_8_16 (lg_c lq_5_15 (lg_c lq_5_16 (lg_c lq_5_17 (lg_c lq_5_18 (lg_c lq_3_6 (lg_c lq_5_19 (lg_c lq_5_20 (lg_c lq_5_21 (lg_c lq_5_22 (lg_c lq_3_7 (lg_c lq_5_1 (lg_c lq_5_2 (lg_c lq_5_3 lg_n)))))))))))))))))))))
theorem lg_wsX3_sounds : GoodIn lw_tbl wsX3_sounds := (lg_c lq_12_10 (goodIn_app (goodIn_app lg_wsX3_sounds_r1 lg_wsX3_sounds_r2) lg_wsX30))
theorem lg_wsL_steps_r1 : GoodIn lw_tbl wsL_steps_r1 := (lg_c lq_3_16 (lg_c lq_12_18 (lg_c lq_12_19 (lg_c lq_12_20 (lg_c lq_1_2 (lg_c lq_12_21 (lg_c lq_1_16 (lg_c lq_1_22 (lg_c lq_10_7 (lg_c lq_10_8 (lg_c lq_10_9 (lg_c lq_10_10 (lg_c lq_4_7 (lg_c lq_4_8 (lg_c lq_2_1 (lg_c lq_12_22 (lg_c lq_12_23 (lg_c lq_13_0 (lg_c lq_13_1 (lg_c lq_13_2 (lg_c lq_8_13 (lg_c lq_8_14 (lg_c lq_8_15 (lg_c lq_8_16 lg_n))))))))))))))))))))))))
theorem lg_wsL_steps_r2 : GoodIn lw_tbl wsL_steps_r2 := (lg_c lq_13_3 (lg_c lq_13_4 (lg_c lq_13_5 (lg_c lq_13_6 (lg_c lq_12_4 (lg_c lq_12_5 (lg_c lq_1_15 (lg_c lq_12_6 (lg_c lq_10_16 (lg_c lq_2_12 (lg_c lq_10_17 (lg_c lq_10_18 (lg_c lq_7_20 (lg_c lq_4_17 (lg_c lq_4_18 (lg_c lq_4_19 (lg_c lq_2_7 (lg_c lq_2_6 (lg_c lq_2_8 (lg_c lq_2_13 (lg_c lq_4_12 (lg_c lq_4_13 (lg_c lq_4_14 (lg_c lq_4_15 lg_n))))))))))))))))))))))))
theorem lg_wsL_steps : GoodIn lw_tbl wsL_steps := (lg_c lq_12_17 (goodIn_app (goodIn_app (goodIn_app (goodIn_app (goodIn_app lg_wsL_steps_r1 lg_wsL_steps_r2) lg_wsX20) lg_wsX00) lg_wsX10) lg_v2))
theorem lg_wsX3_steps_r1 : GoodIn lw_tbl wsX3_steps_r1 := (lg_c lq_5_0 (lg_c lq_3_7 (lg_c lq_11_15 (lg_c lq_8_14 (lg_c lq_8_15 (lg_c lq_8_16 (lg_c lq_10_23 (lg_c lq_11_0 (lg_c lq_11_1 (lg_c lq_1_5 (lg_c lq_11_2 (lg_c lq_9_19 (lg_c lq_5_4 (lg_c lq_5_5 (lg_c lq_5_6 (lg_c lq_5_7 (lg_c lq_5_8 (lg_c lq_5_9 (lg_c lq_5_10 (lg_c lq_11_7 (lg_c lq_11_8 (lg_c lq_11_9 (lg_c lq_11_10 (lg_c lq_3_3 lg_n))))))))))))))))))))))))
theorem lg_wsX3_steps_r2 : GoodIn lw_tbl wsX3_steps_r2 := (lg_c lq_5_19 (lg_c lq_5_20 (lg_c lq_5_21 (lg_c lq_5_22 (lg_c lq_5_1 (lg_c lq_5_2 (lg_c lq_5_3 (lg_c lq_5_11 (lg_c lq_5_12 (lg_c lq_5_13 (lg_c lq_5_14 (lg_c lq_3_2 (lg_c lq_12_11 (lg_c lq_12_12 (lg_c lq_12_13 (lg_c lq_12_14 (lg_c lq_11_11 (lg_c lq_11_12 (lg_c lq_11_13 (lg_c lq_11_14 (lg_c lq_5_15 (lg_c lq_5_16 (lg_c lq_5_17 (lg_c lq_5_18 lg_n))))))))))))))))))))))))
theorem lg_wsX3_steps_r3 : GoodIn lw_tbl wsX3_steps_r3 := (lg_c lq_3_6 lg_n)
theorem lg_wsX3_steps : GoodIn lw_tbl wsX3_steps := (lg_c lq_13_10 (goodIn_app (goodIn_app lg_wsX3_steps_r1 (goodIn_app lg_wsX3_steps_r2 lg_wsX3_steps_r3)) lg_wsX30))
theorem lg_wsL_pass_r1 : GoodIn lw_tbl wsL_pass_r1 := (lg_c lq_3_17 (lg_c lq_13_14 (lg_c lq_13_15 (lg_c lq_13_16 (lg_c lq_1_2 (lg_c lq_13_17 (lg_c lq_1_16 (lg_c lq_13_18 (lg_c lq_13_19 (lg_c lq_13_20 (lg_c lq_3_23 (lg_c lq_4_0 (lg_c lq_13_21 (lg_c lq_13_22 (lg_c lq_13_23 (lg_c lq_14_0 (lg_c lq_1_19 (lg_c lq_1_20 (lg_c lq_14_1 (lg_c lq_14_2 (lg_c lq_14_3 (lg_c lq_1_15 (lg_c lq_14_4 (lg_c lq_2_14 lg_n))))))))))))))))))))))))
theorem lg_wsL_pass_r2 : GoodIn lw_tbl wsL_pass_r2 := (lg_c lq_14_5 (lg_c lq_14_6 (lg_c lq_14_7 (lg_c lq_14_8 (lg_c lq_14_9 (lg_c lq_14_10 (lg_c lq_14_11 (lg_c lq_14_12 (lg_c lq_2_12 (lg_c lq_14_13 (lg_c lq_14_14 (lg_c lq_14_15 (lg_c lq_14_16 (lg_c lq_2_9 (lg_c lq_14_17 (lg_c lq_14_18 (lg_c lq_8_15 (lg_c lq_14_19 (lg_c lq_2_8 (lg_c lq_2_10 (lg_c lq_7_20 (lg_c lq_4_17 (lg_c lq_4_18 (lg_c lq_4_19 lg_n))))))))))))))))))))))))
theorem lg_wsL_pass_r3 : GoodIn lw_tbl wsL_pass_r3 := (lg_c lq_2_7 (lg_c lq_2_6 (lg_c lq_2_13 (lg_c lq_14_20 (lg_c lq_14_21 (lg_c lq_14_22 (lg_c lq_14_23 (lg_c lq_15_0 (lg_c lq_13_4 (lg_c lq_13_5 (lg_c lq_15_1 (lg_c lq_15_2 (lg_c lq_15_3 (lg_c lq_15_4 lg_n))))))))))))))
theorem lg_wsL_pass : GoodIn lw_tbl wsL_pass := (lg_c lq_13_13 (goodIn_app (goodIn_app (goodIn_app (goodIn_app lg_wsL_pass_r1 (goodIn_app lg_wsL_pass_r2 lg_wsL_pass_r3)) lg_wsX20) lg_wsX10) lg_v0))
theorem lg_wsX3_pass_r1 : GoodIn lw_tbl wsX3_pass_r1 := (lg_c lq_5_0 (lg_c lq_5_4 (lg_c lq_5_5 (lg_c lq_1_5 (lg_c lq_5_6 (lg_c lq_5_7 (lg_c lq_5_8 (lg_c lq_5_9 (lg_c lq_5_10 (lg_c lq_15_9 (lg_c lq_15_10 (lg_c lq_15_11 (lg_c lq_15_12 (lg_c lq_3_4 (lg_c lq_3_6 (lg_c lq_15_13 (lg_c lq_15_14 (lg_c lq_15_15 (lg_c lq_15_16 (lg_c lq_3_5 (lg_c lq_15_17 (lg_c lq_14_18 (lg_c lq_8_15 (lg_c lq_14_19 lg_n))))))))))))))))))))))))
theorem lg_wsX3_pass_r2 : GoodIn lw_tbl wsX3_pass_r2 := (lg_c lq_15_18 (lg_c lq_13_4 (lg_c lq_13_5 (lg_c lq_5_11 (lg_c lq_5_12 (lg_c lq_5_13 (lg_c lq_5_14 (lg_c lq_3_2 (lg_c lq_5_15 (lg_c lq_5_16 (lg_c lq_5_17 (lg_c lq_5_18 (lg_c lq_5_19 (lg_c lq_5_20 (lg_c lq_5_21 (lg_c lq_5_22 (lg_c lq_3_7 (lg_c lq_5_1 (lg_c lq_5_2 (lg_c lq_5_3 (lg_c lq_3_8 (lg_c lq_3_9 (lg_c lq_3_10 (lg_c lq_3_11 lg_n))))))))))))))))))))))))
theorem lg_wsX3_pass_r3 : GoodIn lw_tbl wsX3_pass_r3 := (lg_c lq_15_19 (lg_c lq_15_20 (lg_c lq_15_21 (lg_c lq_15_22 (lg_c lq_15_23 (lg_c lq_16_0 (lg_c lq_16_1 lg_n)))))))
theorem lg_wsX3_pass : GoodIn lw_tbl wsX3_pass := (lg_c lq_15_8 (goodIn_app (goodIn_app lg_wsX3_pass_r1 (goodIn_app lg_wsX3_pass_r2 lg_wsX3_pass_r3)) lg_wsX30))
theorem lg_wsL_count_r1 : GoodIn lw_tbl wsL_count_r1 := (lg_c lq_3_16 (lg_c lq_16_5 (lg_c lq_16_6 (lg_c lq_16_7 (lg_c lq_1_2 (lg_c lq_16_8 (lg_c lq_4_7 (lg_c lq_4_8 (lg_c lq_16_9 (lg_c lq_16_10 (lg_c lq_16_11 (lg_c lq_16_12 (lg_c lq_1_16 (lg_c lq_16_13 (lg_c lq_2_1 (lg_c lq_16_14 (lg_c lq_4_3 (lg_c lq_16_15 (lg_c lq_16_16 (lg_c lq_16_17 (lg_c lq_16_18 (lg_c lq_16_19 (lg_c lq_1_15 (lg_c lq_16_20 lg_n))))))))))))))))))))))))
theorem lg_wsL_count_r2 : GoodIn lw_tbl wsL_count_r2 := (lg_c lq_2_12 (lg_c lq_16_21 (lg_c lq_16_22 (lg_c lq_16_23 (lg_c lq_17_0 (lg_c lq_1_22 (lg_c lq_11_23 (lg_c lq_12_0 (lg_c lq_12_1 (lg_c lq_12_2 (lg_c lq_10_15 (lg_c lq_12_3 (lg_c lq_12_4 (lg_c lq_12_5 (lg_c lq_12_6 (lg_c lq_10_16 (lg_c lq_10_17 (lg_c lq_10_18 (lg_c lq_8_14 (lg_c lq_8_15 (lg_c lq_8_16 (lg_c lq_7_20 (lg_c lq_4_17 (lg_c lq_4_18 lg_n))))))))))))))))))))))))
theorem lg_wsL_count_r3 : GoodIn lw_tbl wsL_count_r3 := (lg_c lq_4_19 (lg_c lq_2_7 (lg_c lq_2_6 (lg_c lq_2_8 (lg_c lq_2_13 (lg_c lq_17_1 (lg_c lq_17_2 (lg_c lq_17_3 lg_n))))))))
theorem lg_wsL_count : GoodIn lw_tbl wsL_count := (lg_c lq_16_4 (goodIn_app (goodIn_app (goodIn_app (goodIn_app (goodIn_app lg_wsL_count_r1 (goodIn_app lg_wsL_count_r2 lg_wsL_count_r3)) lg_wsX20) lg_wsX10) lg_wsX00) lg_v2))
theorem lg_wsX3_count_r1 : GoodIn lw_tbl wsX3_count_r1 := (lg_c lq_5_0 (lg_c lq_5_4 (lg_c lq_5_5 (lg_c lq_1_5 (lg_c lq_5_6 (lg_c lq_17_8 (lg_c lq_17_9 (lg_c lq_17_10 (lg_c lq_17_11 (lg_c lq_3_6 (lg_c lq_9_19 (lg_c lq_12_11 (lg_c lq_12_12 (lg_c lq_12_13 (lg_c lq_12_14 (lg_c lq_11_7 (lg_c lq_11_8 (lg_c lq_11_9 (lg_c lq_11_10 (lg_c lq_3_3 (lg_c lq_5_11 (lg_c lq_5_12 (lg_c lq_5_13 (lg_c lq_5_14 lg_n))))))))))))))))))))))))
theorem lg_wsX3_count_r2 : GoodIn lw_tbl wsX3_count_r2 := (lg_c lq_3_2 (lg_c lq_11_11 (lg_c lq_11_12 (lg_c lq_11_13 (lg_c lq_11_14 (lg_c lq_11_15 (lg_c lq_8_14 (lg_c lq_8_15 (lg_c lq_8_16 (lg_c lq_5_15 (lg_c lq_5_16 (lg_c lq_5_17 (lg_c lq_5_18 (lg_c lq_5_19 (lg_c lq_5_20 (lg_c lq_5_21 (lg_c lq_5_22 (lg_c lq_3_7 (lg_c lq_5_1 (lg_c lq_5_2 (lg_c lq_5_3 (lg_c lq_5_7 (lg_c lq_5_8 (lg_c lq_5_9 lg_n))))))))))))))))))))))))
theorem lg_wsX3_count_r3 : GoodIn lw_tbl wsX3_count_r3 := (lg_c lq_5_10 lg_n)
theorem lg_wsX3_count : GoodIn lw_tbl wsX3_count := (lg_c lq_17_7 (goodIn_app (goodIn_app lg_wsX3_count_r1 (goodIn_app lg_wsX3_count_r2 lg_wsX3_count_r3)) lg_wsX30))
theorem lg_wsL_bears_r1 : GoodIn lw_tbl wsL_bears_r1 := (lg_c lq_3_16 (lg_c lq_17_15 (lg_c lq_17_16 (lg_c lq_17_17 (lg_c lq_1_2 (lg_c lq_17_18 (lg_c lq_4_4 (lg_c lq_4_5 (lg_c lq_4_6 (lg_c lq_4_7 (lg_c lq_4_8 (lg_c lq_17_19 (lg_c lq_17_20 (lg_c lq_17_21 (lg_c lq_17_22 (lg_c lq_1_17 (lg_c lq_1_16 (lg_c lq_8_12 (lg_c lq_1_20 (lg_c lq_17_23 (lg_c lq_18_0 (lg_c lq_18_1 (lg_c lq_1_15 (lg_c lq_18_2 lg_n))))))))))))))))))))))))
theorem lg_wsL_bears_r2 : GoodIn lw_tbl wsL_bears_r2 := (lg_c lq_2_6 (lg_c lq_2_7 (lg_c lq_2_8 (lg_c lq_2_9 (lg_c lq_2_10 (lg_c lq_2_12 (lg_c lq_2_13 (lg_c lq_2_14 (lg_c lq_14_1 (lg_c lq_14_2 (lg_c lq_14_3 (lg_c lq_14_4 (lg_c lq_14_5 (lg_c lq_14_6 (lg_c lq_14_7 (lg_c lq_14_8 (lg_c lq_14_9 (lg_c lq_14_10 (lg_c lq_14_11 (lg_c lq_14_12 (lg_c lq_14_13 (lg_c lq_14_14 (lg_c lq_14_15 (lg_c lq_14_16 lg_n))))))))))))))))))))))))
theorem lg_wsL_bears_r3 : GoodIn lw_tbl wsL_bears_r3 := (lg_c lq_14_17 (lg_c lq_14_18 (lg_c lq_8_15 (lg_c lq_14_19 (lg_c lq_7_20 (lg_c lq_4_17 (lg_c lq_4_18 (lg_c lq_4_19 (lg_c lq_14_20 (lg_c lq_14_21 (lg_c lq_14_22 (lg_c lq_14_23 (lg_c lq_15_0 (lg_c lq_13_4 (lg_c lq_13_5 (lg_c lq_15_1 (lg_c lq_15_2 (lg_c lq_15_3 (lg_c lq_15_4 lg_n)))))))))))))))))))
theorem lg_wsL_bears : GoodIn lw_tbl wsL_bears := (lg_c lq_17_14 (goodIn_app (goodIn_app (goodIn_app (goodIn_app lg_wsL_bears_r1 (goodIn_app lg_wsL_bears_r2 lg_wsL_bears_r3)) lg_wsX20) lg_wsX10) lg_v2))
theorem lg_wsX3_bears_r1 : GoodIn lw_tbl wsX3_bears_r1 := (lg_c lq_5_0 (lg_c lq_5_1 (lg_c lq_5_2 (lg_c lq_1_5 (lg_c lq_5_3 (lg_c lq_5_4 (lg_c lq_5_5 (lg_c lq_5_6 (lg_c lq_5_7 (lg_c lq_5_8 (lg_c lq_5_9 (lg_c lq_5_10 (lg_c lq_5_11 (lg_c lq_5_12 (lg_c lq_5_13 (lg_c lq_5_14 (lg_c lq_3_2 (lg_c lq_18_7 (lg_c lq_18_8 (lg_c lq_18_9 (lg_c lq_18_10 (lg_c lq_18_11 (lg_c lq_18_12 (lg_c lq_18_13 lg_n))))))))))))))))))))))))
theorem lg_wsX3_bears_r2 : GoodIn lw_tbl wsX3_bears_r2 := (lg_c lq_18_14 (lg_c lq_18_15 (lg_c lq_18_16 (lg_c lq_3_6 (lg_c lq_15_13 (lg_c lq_15_14 (lg_c lq_15_15 (lg_c lq_15_16 (lg_c lq_3_5 (lg_c lq_15_17 (lg_c lq_14_18 (lg_c lq_8_15 (lg_c lq_14_19 (lg_c lq_15_18 (lg_c lq_13_4 (lg_c lq_13_5 (lg_c lq_5_15 (lg_c lq_5_16 (lg_c lq_5_17 (lg_c lq_5_18 (lg_c lq_5_19 (lg_c lq_5_20 (lg_c lq_5_21 (lg_c lq_5_22 lg_n))))))))))))))))))))))))
theorem lg_wsX3_bears_r3 : GoodIn lw_tbl wsX3_bears_r3 := (lg_c lq_3_7 (lg_c lq_3_8 (lg_c lq_3_9 (lg_c lq_3_10 (lg_c lq_3_11 (lg_c lq_18_17 (lg_c lq_18_18 (lg_c lq_18_19 (lg_c lq_18_20 (lg_c lq_9_20 (lg_c lq_9_21 (lg_c lq_9_22 (lg_c lq_9_23 lg_n)))))))))))))
theorem lg_wsX3_bears : GoodIn lw_tbl wsX3_bears := (lg_c lq_18_6 (goodIn_app (goodIn_app lg_wsX3_bears_r1 (goodIn_app lg_wsX3_bears_r2 lg_wsX3_bears_r3)) lg_wsX30))
theorem lg_wsX2_first_r1 : GoodIn lw_tbl wsX2_first_r1 := (lg_c lq_1_17 (lg_c lq_1_16 (lg_c lq_17_23 (lg_c lq_18_0 (lg_c lq_18_1 (lg_c lq_1_15 (lg_c lq_18_2 (lg_c lq_2_6 (lg_c lq_2_7 (lg_c lq_2_8 (lg_c lq_2_9 (lg_c lq_2_10 (lg_c lq_2_12 (lg_c lq_2_13 (lg_c lq_2_14 (lg_c lq_13_21 (lg_c lq_13_22 (lg_c lq_13_23 (lg_c lq_1_2 (lg_c lq_14_0 (lg_c lq_1_19 (lg_c lq_1_20 (lg_c lq_14_1 (lg_c lq_14_2 lg_n))))))))))))))))))))))))
theorem lg_wsX2_first_r2 : GoodIn lw_tbl wsX2_first_r2 := (lg_c lq_14_3 (lg_c lq_14_4 (lg_c lq_14_5 (lg_c lq_14_6 (lg_c lq_14_7 (lg_c lq_14_8 (lg_c lq_14_9 (lg_c lq_14_10 (lg_c lq_14_11 (lg_c lq_14_12 (lg_c lq_14_13 (lg_c lq_14_14 (lg_c lq_14_15 (lg_c lq_14_16 (lg_c lq_14_17 (lg_c lq_14_18 (lg_c lq_8_15 (lg_c lq_14_19 (lg_c lq_7_20 (lg_c lq_4_17 (lg_c lq_4_18 (lg_c lq_4_19 (lg_c lq_14_20 (lg_c lq_14_21 lg_n))))))))))))))))))))))))
theorem lg_wsX2_first_r3 : GoodIn lw_tbl wsX2_first_r3 := (lg_c lq_14_22 (lg_c lq_14_23 (lg_c lq_15_0 (lg_c lq_13_4 (lg_c lq_13_5 (lg_c lq_15_1 (lg_c lq_15_2 (lg_c lq_15_3 (lg_c lq_15_4 (lg_c lq_19_1 (lg_c lq_19_2 (lg_c lq_19_3 (lg_c lq_19_4 (lg_c lq_8_12 lg_n))))))))))))))
theorem lg_wsX2_first : GoodIn lw_tbl wsX2_first := (lg_c lq_19_0 (goodIn_app (goodIn_app (goodIn_app lg_wsX2_first_r1 (goodIn_app lg_wsX2_first_r2 lg_wsX2_first_r3)) lg_wsX20) lg_wsX10))
theorem lg_wsX3_first_r1 : GoodIn lw_tbl wsX3_first_r1 := (lg_c lq_5_0 (lg_c lq_18_7 (lg_c lq_18_8 (lg_c lq_18_9 (lg_c lq_1_5 (lg_c lq_18_10 (lg_c lq_18_11 (lg_c lq_3_2 (lg_c lq_18_12 (lg_c lq_18_13 (lg_c lq_18_14 (lg_c lq_18_15 (lg_c lq_18_16 (lg_c lq_3_6 (lg_c lq_15_9 (lg_c lq_15_10 (lg_c lq_15_11 (lg_c lq_15_12 (lg_c lq_3_4 (lg_c lq_15_13 (lg_c lq_15_14 (lg_c lq_15_15 (lg_c lq_15_16 (lg_c lq_3_5 lg_n))))))))))))))))))))))))
theorem lg_wsX3_first_r2 : GoodIn lw_tbl wsX3_first_r2 := (lg_c lq_15_17 (lg_c lq_14_18 (lg_c lq_8_15 (lg_c lq_14_19 (lg_c lq_15_18 (lg_c lq_13_4 (lg_c lq_13_5 (lg_c lq_5_11 (lg_c lq_5_12 (lg_c lq_5_13 (lg_c lq_5_14 (lg_c lq_5_15 (lg_c lq_5_16 (lg_c lq_5_17 (lg_c lq_5_18 (lg_c lq_5_19 (lg_c lq_5_20 (lg_c lq_5_21 (lg_c lq_5_22 (lg_c lq_3_7 (lg_c lq_5_1 (lg_c lq_5_2 (lg_c lq_5_3 (lg_c lq_5_4 lg_n))))))))))))))))))))))))
theorem lg_wsX3_first_r3 : GoodIn lw_tbl wsX3_first_r3 := (lg_c lq_5_5 (lg_c lq_5_6 (lg_c lq_3_8 (lg_c lq_3_9 (lg_c lq_3_10 (lg_c lq_3_11 (lg_c lq_18_17 (lg_c lq_18_18 (lg_c lq_18_19 (lg_c lq_18_20 (lg_c lq_9_20 (lg_c lq_9_21 (lg_c lq_9_22 (lg_c lq_9_23 (lg_c lq_19_9 (lg_c lq_19_10 (lg_c lq_15_21 (lg_c lq_19_11 (lg_c lq_19_12 lg_n)))))))))))))))))))
theorem lg_wsX3_first : GoodIn lw_tbl wsX3_first := (lg_c lq_19_8 (goodIn_app (goodIn_app lg_wsX3_first_r1 (goodIn_app lg_wsX3_first_r2 lg_wsX3_first_r3)) lg_wsX30))
theorem lg_wsL_holds_r1 : GoodIn lw_tbl wsL_holds_r1 := (lg_c lq_3_16 (lg_c lq_19_16 (lg_c lq_19_17 (lg_c lq_19_18 (lg_c lq_1_2 (lg_c lq_19_19 (lg_c lq_1_22 (lg_c lq_1_17 (lg_c lq_1_16 (lg_c lq_13_2 (lg_c lq_13_1 (lg_c lq_10_7 (lg_c lq_10_8 (lg_c lq_10_9 (lg_c lq_10_10 (lg_c lq_4_7 (lg_c lq_4_8 (lg_c lq_2_1 (lg_c lq_17_23 (lg_c lq_18_0 (lg_c lq_18_1 (lg_c lq_1_15 (lg_c lq_18_2 (lg_c lq_2_6 lg_n))))))))))))))))))))))))
theorem lg_wsL_holds_r2 : GoodIn lw_tbl wsL_holds_r2 := (lg_c lq_2_7 (lg_c lq_2_8 (lg_c lq_2_9 (lg_c lq_2_10 (lg_c lq_2_12 (lg_c lq_2_13 (lg_c lq_2_14 (lg_c lq_11_23 (lg_c lq_12_0 (lg_c lq_12_1 (lg_c lq_12_2 (lg_c lq_10_15 (lg_c lq_12_3 (lg_c lq_12_4 (lg_c lq_12_5 (lg_c lq_12_6 (lg_c lq_10_16 (lg_c lq_10_17 (lg_c lq_10_18 (lg_c lq_8_14 (lg_c lq_8_15 (lg_c lq_8_16 (lg_c lq_7_20 (lg_c lq_4_17 lg_n))))))))))))))))))))))))
theorem lg_wsL_holds_r3 : GoodIn lw_tbl wsL_holds_r3 := (lg_c lq_4_18 (lg_c lq_4_19 (lg_c lq_13_21 (lg_c lq_13_22 (lg_c lq_13_23 (lg_c lq_14_0 (lg_c lq_1_19 (lg_c lq_1_20 (lg_c lq_14_1 (lg_c lq_14_2 (lg_c lq_14_3 (lg_c lq_14_4 (lg_c lq_14_5 (lg_c lq_14_6 (lg_c lq_14_7 (lg_c lq_14_8 (lg_c lq_14_9 (lg_c lq_14_10 (lg_c lq_14_11 (lg_c lq_14_12 (lg_c lq_14_13 (lg_c lq_14_14 (lg_c lq_14_15 (lg_c lq_14_16 lg_n))))))))))))))))))))))))
theorem lg_wsL_holds_r4 : GoodIn lw_tbl wsL_holds_r4 := (lg_c lq_14_17 (lg_c lq_14_18 (lg_c lq_14_19 (lg_c lq_14_20 (lg_c lq_14_21 (lg_c lq_14_22 (lg_c lq_14_23 (lg_c lq_15_0 (lg_c lq_13_4 (lg_c lq_13_5 (lg_c lq_15_1 (lg_c lq_15_2 (lg_c lq_15_3 (lg_c lq_15_4 lg_n))))))))))))))
theorem lg_wsL_holds : GoodIn lw_tbl wsL_holds := (lg_c lq_19_15 (goodIn_app (goodIn_app (goodIn_app (goodIn_app (goodIn_app lg_wsL_holds_r1 (goodIn_app lg_wsL_holds_r2 (goodIn_app lg_wsL_holds_r3 lg_wsL_holds_r4))) lg_wsX20) lg_wsX00) lg_wsX10) lg_v2))
theorem lg_wsX3_holds_r1 : GoodIn lw_tbl wsX3_holds_r1 := (lg_c lq_5_0 (lg_c lq_10_23 (lg_c lq_11_0 (lg_c lq_11_1 (lg_c lq_1_5 (lg_c lq_11_2 (lg_c lq_9_19 (lg_c lq_5_4 (lg_c lq_5_5 (lg_c lq_5_6 (lg_c lq_5_7 (lg_c lq_5_8 (lg_c lq_5_9 (lg_c lq_5_10 (lg_c lq_18_7 (lg_c lq_18_8 (lg_c lq_18_9 (lg_c lq_18_10 (lg_c lq_18_11 (lg_c lq_3_2 (lg_c lq_18_12 (lg_c lq_18_13 (lg_c lq_18_14 (lg_c lq_18_15 lg_n))))))))))))))))))))))))
theorem lg_wsX3_holds_r2 : GoodIn lw_tbl wsX3_holds_r2 := (lg_c lq_18_16 (lg_c lq_3_6 (lg_c lq_12_11 (lg_c lq_12_12 (lg_c lq_12_13 (lg_c lq_12_14 (lg_c lq_11_7 (lg_c lq_11_8 (lg_c lq_11_9 (lg_c lq_11_10 (lg_c lq_3_3 (lg_c lq_5_11 (lg_c lq_5_12 (lg_c lq_5_13 (lg_c lq_5_14 (lg_c lq_11_11 (lg_c lq_11_12 (lg_c lq_11_13 (lg_c lq_11_14 (lg_c lq_11_15 (lg_c lq_8_14 (lg_c lq_8_15 (lg_c lq_8_16 (lg_c lq_5_15 lg_n))))))))))))))))))))))))
theorem lg_wsX3_holds_r3 : GoodIn lw_tbl wsX3_holds_r3 := (lg_c lq_5_16 (lg_c lq_5_17 (lg_c lq_5_18 (lg_c lq_5_19 (lg_c lq_5_20 (lg_c lq_5_21 (lg_c lq_5_22 (lg_c lq_3_7 (lg_c lq_5_1 (lg_c lq_5_2 (lg_c lq_5_3 (lg_c lq_15_9 (lg_c lq_15_10 (lg_c lq_15_11 (lg_c lq_15_12 (lg_c lq_3_4 (lg_c lq_15_13 (lg_c lq_15_14 (lg_c lq_15_15 (lg_c lq_15_16 (lg_c lq_3_5 (lg_c lq_15_17 (lg_c lq_14_18 (lg_c lq_14_19 lg_n))))))))))))))))))))))))
theorem lg_wsX3_holds_r4 : GoodIn lw_tbl wsX3_holds_r4 := (lg_c lq_15_18 (lg_c lq_13_4 (lg_c lq_13_5 (lg_c lq_3_8 (lg_c lq_3_9 (lg_c lq_3_10 (lg_c lq_3_11 (lg_c lq_18_17 (lg_c lq_18_18 (lg_c lq_18_19 (lg_c lq_18_20 (lg_c lq_9_20 (lg_c lq_9_21 (lg_c lq_9_22 (lg_c lq_9_23 lg_n)))))))))))))))
theorem lg_wsX3_holds : GoodIn lw_tbl wsX3_holds := (lg_c lq_19_23 (goodIn_app (goodIn_app lg_wsX3_holds_r1 (goodIn_app lg_wsX3_holds_r2 (goodIn_app lg_wsX3_holds_r3 lg_wsX3_holds_r4))) lg_wsX30))
theorem lg_wsL_foresee_r1 : GoodIn lw_tbl wsL_foresee_r1 := (lg_c lq_3_17 (lg_c lq_3_16 (lg_c lq_20_3 (lg_c lq_20_4 (lg_c lq_20_5 (lg_c lq_1_2 (lg_c lq_20_6 (lg_c lq_1_17 (lg_c lq_1_16 (lg_c lq_13_18 (lg_c lq_13_19 (lg_c lq_13_20 (lg_c lq_3_23 (lg_c lq_4_0 (lg_c lq_4_4 (lg_c lq_4_5 (lg_c lq_4_6 (lg_c lq_4_7 (lg_c lq_4_8 (lg_c lq_17_23 (lg_c lq_18_0 (lg_c lq_18_1 (lg_c lq_1_15 (lg_c lq_18_2 lg_n))))))))))))))))))))))))
theorem lg_wsL_foresee_r2 : GoodIn lw_tbl wsL_foresee_r2 := (lg_c lq_2_6 (lg_c lq_2_7 (lg_c lq_2_8 (lg_c lq_2_9 (lg_c lq_2_10 (lg_c lq_2_12 (lg_c lq_2_13 (lg_c lq_2_14 (lg_c lq_13_21 (lg_c lq_13_22 (lg_c lq_13_23 (lg_c lq_14_0 (lg_c lq_1_19 (lg_c lq_1_20 (lg_c lq_14_1 (lg_c lq_14_2 (lg_c lq_14_3 (lg_c lq_14_4 (lg_c lq_14_5 (lg_c lq_14_6 (lg_c lq_14_7 (lg_c lq_14_8 (lg_c lq_14_9 (lg_c lq_14_10 lg_n))))))))))))))))))))))))
theorem lg_wsL_foresee_r3 : GoodIn lw_tbl wsL_foresee_r3 := (lg_c lq_14_11 (lg_c lq_14_12 (lg_c lq_14_13 (lg_c lq_14_14 (lg_c lq_14_15 (lg_c lq_14_16 (lg_c lq_14_17 (lg_c lq_14_18 (lg_c lq_8_15 (lg_c lq_14_19 (lg_c lq_7_20 (lg_c lq_4_17 (lg_c lq_4_18 (lg_c lq_4_19 (lg_c lq_14_20 (lg_c lq_14_21 (lg_c lq_14_22 (lg_c lq_14_23 (lg_c lq_15_0 (lg_c lq_13_4 (lg_c lq_13_5 (lg_c lq_15_1 (lg_c lq_15_2 (lg_c lq_15_3 lg_n))))))))))))))))))))))))
theorem lg_wsL_foresee_r4 : GoodIn lw_tbl wsL_foresee_r4 := (lg_c lq_15_4 (lg_c lq_4_16 lg_n))
theorem lg_wsL_foresee : GoodIn lw_tbl wsL_foresee := (lg_c lq_20_2 (goodIn_app (goodIn_app (goodIn_app (goodIn_app (goodIn_app lg_wsL_foresee_r1 (goodIn_app lg_wsL_foresee_r2 (goodIn_app lg_wsL_foresee_r3 lg_wsL_foresee_r4))) lg_wsX20) lg_wsX10) lg_v0) lg_v2))
theorem lg_wsX3_foresee_r1 : GoodIn lw_tbl wsX3_foresee_r1 := (lg_c lq_5_0 (lg_c lq_5_4 (lg_c lq_5_5 (lg_c lq_1_5 (lg_c lq_5_6 (lg_c lq_5_7 (lg_c lq_5_8 (lg_c lq_5_9 (lg_c lq_5_10 (lg_c lq_5_1 (lg_c lq_5_2 (lg_c lq_5_3 (lg_c lq_18_7 (lg_c lq_18_8 (lg_c lq_18_9 (lg_c lq_18_10 (lg_c lq_18_11 (lg_c lq_3_2 (lg_c lq_18_12 (lg_c lq_18_13 (lg_c lq_18_14 (lg_c lq_18_15 (lg_c lq_18_16 (lg_c lq_3_6 lg_n))))))))))))))))))))))))
theorem lg_wsX3_foresee_r2 : GoodIn lw_tbl wsX3_foresee_r2 := (lg_c lq_15_9 (lg_c lq_15_10 (lg_c lq_15_11 (lg_c lq_15_12 (lg_c lq_3_4 (lg_c lq_15_13 (lg_c lq_15_14 (lg_c lq_15_15 (lg_c lq_15_16 (lg_c lq_3_5 (lg_c lq_15_17 (lg_c lq_14_18 (lg_c lq_8_15 (lg_c lq_14_19 (lg_c lq_15_18 (lg_c lq_13_4 (lg_c lq_13_5 (lg_c lq_5_11 (lg_c lq_5_12 (lg_c lq_5_13 (lg_c lq_5_14 (lg_c lq_5_15 (lg_c lq_5_16 (lg_c lq_5_17 lg_n))))))))))))))))))))))))
theorem lg_wsX3_foresee_r3 : GoodIn lw_tbl wsX3_foresee_r3 := (lg_c lq_5_18 (lg_c lq_5_19 (lg_c lq_5_20 (lg_c lq_5_21 (lg_c lq_5_22 (lg_c lq_3_7 (lg_c lq_3_8 (lg_c lq_3_9 (lg_c lq_3_10 (lg_c lq_3_11 (lg_c lq_18_17 (lg_c lq_18_18 (lg_c lq_18_19 (lg_c lq_18_20 (lg_c lq_9_20 (lg_c lq_9_21 (lg_c lq_9_22 (lg_c lq_9_23 lg_n))))))))))))))))))
theorem lg_wsX3_foresee : GoodIn lw_tbl wsX3_foresee := (lg_c lq_20_10 (goodIn_app (goodIn_app lg_wsX3_foresee_r1 (goodIn_app lg_wsX3_foresee_r2 lg_wsX3_foresee_r3)) lg_wsX30))
theorem lg_wsX2_mean : GoodIn lw_tbl wsX2_mean := (lg_c lq_20_14 (goodIn_app (goodIn_app (lg_c lq_1_16 (lg_c lq_16_17 (lg_c lq_16_18 (lg_c lq_16_19 (lg_c lq_1_15 (lg_c lq_16_20 (lg_c lq_2_12 (lg_c lq_20_15 (lg_c lq_20_16 (lg_c lq_20_17 (lg_c lq_20_18 (lg_c lq_7_20 (lg_c lq_4_17 (lg_c lq_4_18 (lg_c lq_4_19 (lg_c lq_2_7 (lg_c lq_2_6 (lg_c lq_2_8 (lg_c lq_2_13 lg_n))))))))))))))))))) lg_wsX20) lg_wsX10))
theorem lg_wsX3_mean_r1 : GoodIn lw_tbl wsX3_mean_r1 := (lg_c lq_5_0 (lg_c lq_5_15 (lg_c lq_5_16 (lg_c lq_5_17 (lg_c lq_1_5 (lg_c lq_5_18 (lg_c lq_3_6 (lg_c lq_5_11 (lg_c lq_5_12 (lg_c lq_5_13 (lg_c lq_5_14 (lg_c lq_3_2 (lg_c lq_5_19 (lg_c lq_5_20 (lg_c lq_5_21 (lg_c lq_5_22 (lg_c lq_3_7 (lg_c lq_5_1 (lg_c lq_5_2 (lg_c lq_5_3 (lg_c lq_5_4 (lg_c lq_5_5 (lg_c lq_5_6 (lg_c lq_17_8 lg_n))))))))))))))))))))))))
theorem lg_wsX3_mean_r2 : GoodIn lw_tbl wsX3_mean_r2 := (lg_c lq_17_9 (lg_c lq_17_10 (lg_c lq_17_11 (lg_c lq_9_19 (lg_c lq_12_11 (lg_c lq_12_12 (lg_c lq_12_13 (lg_c lq_12_14 (lg_c lq_11_7 (lg_c lq_11_8 (lg_c lq_11_9 (lg_c lq_11_10 (lg_c lq_3_3 (lg_c lq_11_11 (lg_c lq_11_12 (lg_c lq_11_13 (lg_c lq_11_14 (lg_c lq_11_15 (lg_c lq_8_14 (lg_c lq_8_15 (lg_c lq_8_16 lg_n)))))))))))))))))))))
theorem lg_wsX3_mean : GoodIn lw_tbl wsX3_mean := (lg_c lq_20_22 (goodIn_app (goodIn_app lg_wsX3_mean_r1 lg_wsX3_mean_r2) lg_wsX30))
theorem lg_wsX2_digest_r1 : GoodIn lw_tbl wsX2_digest_r1 := (lg_c lq_21_3 (lg_c lq_21_4 (lg_c lq_1_16 (lg_c lq_2_1 (lg_c lq_1_22 (lg_c lq_16_9 (lg_c lq_16_10 (lg_c lq_16_11 (lg_c lq_1_2 (lg_c lq_16_12 (lg_c lq_16_13 (lg_c lq_16_14 (lg_c lq_4_3 (lg_c lq_16_15 (lg_c lq_16_16 (lg_c lq_16_17 (lg_c lq_16_18 (lg_c lq_16_19 (lg_c lq_1_15 (lg_c lq_16_20 (lg_c lq_2_12 (lg_c lq_16_21 (lg_c lq_16_22 (lg_c lq_16_23 lg_n))))))))))))))))))))))))
theorem lg_wsX2_digest_r2 : GoodIn lw_tbl wsX2_digest_r2 := (lg_c lq_17_0 (lg_c lq_11_23 (lg_c lq_12_0 (lg_c lq_12_1 (lg_c lq_12_2 (lg_c lq_10_15 (lg_c lq_12_3 (lg_c lq_12_4 (lg_c lq_12_5 (lg_c lq_12_6 (lg_c lq_10_16 (lg_c lq_10_17 (lg_c lq_10_18 (lg_c lq_8_14 (lg_c lq_8_15 (lg_c lq_8_16 (lg_c lq_7_20 (lg_c lq_4_17 (lg_c lq_4_18 (lg_c lq_4_19 (lg_c lq_2_7 (lg_c lq_2_6 (lg_c lq_2_8 (lg_c lq_2_13 lg_n))))))))))))))))))))))))
theorem lg_wsX2_digest_r3 : GoodIn lw_tbl wsX2_digest_r3 := (lg_c lq_17_1 (lg_c lq_17_2 (lg_c lq_17_3 (lg_c lq_7_16 (lg_c lq_7_17 (lg_c lq_7_18 (lg_c lq_7_19 (lg_c lq_2_9 (lg_c lq_2_10 (lg_c lq_7_1 (lg_c lq_7_2 (lg_c lq_7_3 (lg_c lq_7_4 (lg_c lq_1_19 (lg_c lq_1_20 (lg_c lq_21_5 (lg_c lq_21_6 (lg_c lq_21_7 (lg_c lq_21_8 (lg_c lq_13_2 (lg_c lq_13_1 (lg_c lq_21_9 (lg_c lq_10_11 (lg_c lq_10_12 lg_n))))))))))))))))))))))))
theorem lg_wsX2_digest_r4 : GoodIn lw_tbl wsX2_digest_r4 := (lg_c lq_10_13 (lg_c lq_10_14 lg_n))
theorem lg_wsX2_digest : GoodIn lw_tbl wsX2_digest := (lg_c lq_21_2 (goodIn_app (goodIn_app (goodIn_app (goodIn_app lg_wsX2_digest_r1 (goodIn_app lg_wsX2_digest_r2 (goodIn_app lg_wsX2_digest_r3 lg_wsX2_digest_r4))) lg_wsX20) lg_wsX10) lg_wsX00))
theorem lg_wsX3_digest_r1 : GoodIn lw_tbl wsX3_digest_r1 := (lg_c lq_5_0 (lg_c lq_21_14 (lg_c lq_21_15 (lg_c lq_3_4 (lg_c lq_3_5 (lg_c lq_9_19 (lg_c lq_17_8 (lg_c lq_17_9 (lg_c lq_17_10 (lg_c lq_1_5 (lg_c lq_17_11 (lg_c lq_3_6 (lg_c lq_12_11 (lg_c lq_12_12 (lg_c lq_12_13 (lg_c lq_12_14 (lg_c lq_11_7 (lg_c lq_11_8 (lg_c lq_11_9 (lg_c lq_11_10 (lg_c lq_3_3 (lg_c lq_5_11 (lg_c lq_5_12 (lg_c lq_5_13 lg_n))))))))))))))))))))))))
theorem lg_wsX3_digest_r2 : GoodIn lw_tbl wsX3_digest_r2 := (lg_c lq_5_14 (lg_c lq_3_2 (lg_c lq_11_11 (lg_c lq_11_12 (lg_c lq_11_13 (lg_c lq_11_14 (lg_c lq_11_15 (lg_c lq_8_14 (lg_c lq_8_15 (lg_c lq_8_16 (lg_c lq_5_15 (lg_c lq_5_16 (lg_c lq_5_17 (lg_c lq_5_18 (lg_c lq_5_19 (lg_c lq_5_20 (lg_c lq_5_21 (lg_c lq_5_22 (lg_c lq_3_7 (lg_c lq_5_1 (lg_c lq_5_2 (lg_c lq_5_3 (lg_c lq_5_4 (lg_c lq_5_5 lg_n))))))))))))))))))))))))
theorem lg_wsX3_digest_r3 : GoodIn lw_tbl wsX3_digest_r3 := (lg_c lq_5_6 (lg_c lq_8_1 (lg_c lq_8_2 (lg_c lq_8_3 (lg_c lq_8_4 (lg_c lq_11_3 (lg_c lq_11_4 (lg_c lq_11_5 (lg_c lq_11_6 lg_n)))))))))
theorem lg_wsX3_digest : GoodIn lw_tbl wsX3_digest := (lg_c lq_21_13 (goodIn_app (goodIn_app lg_wsX3_digest_r1 (goodIn_app lg_wsX3_digest_r2 lg_wsX3_digest_r3)) lg_wsX30))
theorem gW_L_push : GoodIn lw_tbl (va_wsS RL 66 yL_push wsL_push) := goodIn_app (lg_c lq_3_12 (lg_c lq_3_13 (lg_c lq_3_14 lg_n))) lg_wsL_push
theorem gW_X3_push : GoodIn lw_tbl (wsV RL 71 RX3 yX3_push wsX3_push) := goodIn_app (lg_c lq_4_20 (lg_c lq_4_21 (lg_c lq_4_22 (lg_c lq_1_5 lg_n)))) lg_wsX3_push
theorem gW_X3_thrown : GoodIn lw_tbl (wsV RL 72 RX3 yX3_thrown wsX3_thrown) := goodIn_app (lg_c lq_5_23 (lg_c lq_6_0 (lg_c lq_6_1 (lg_c lq_1_5 lg_n)))) lg_wsX3_thrown
theorem gW_L_draw : GoodIn lw_tbl (va_wsS RL 76 yL_draw wsL_draw) := goodIn_app (lg_c lq_6_3 (lg_c lq_6_4 (lg_c lq_3_14 lg_n))) lg_wsL_draw
theorem gW_X3_draw : GoodIn lw_tbl (wsV RL 78 RX3 yX3_draw wsX3_draw) := goodIn_app (lg_c lq_6_14 (lg_c lq_6_15 (lg_c lq_6_16 (lg_c lq_1_5 lg_n)))) lg_wsX3_draw
theorem gW_L_setWeather : GoodIn lw_tbl (va_wsS RL 79 yL_setWeather wsL_setWeather) := goodIn_app (lg_c lq_6_18 (lg_c lq_6_19 (lg_c lq_3_14 lg_n))) lg_wsL_setWeather
theorem gW_X3_setWeather : GoodIn lw_tbl (wsV RL 82 RX3 yX3_setWeather wsX3_setWeather) := goodIn_app (lg_c lq_7_5 (lg_c lq_7_6 (lg_c lq_7_7 (lg_c lq_1_5 lg_n)))) lg_wsX3_setWeather
theorem gW_L_string : GoodIn lw_tbl (va_wsS RL 83 yL_string wsL_string) := goodIn_app (lg_c lq_7_9 (lg_c lq_7_10 (lg_c lq_3_14 lg_n))) lg_wsL_string
theorem gW_X3_string : GoodIn lw_tbl (wsV RL 85 RX3 yX3_string wsX3_string) := goodIn_app (lg_c lq_7_21 (lg_c lq_7_22 (lg_c lq_7_23 (lg_c lq_1_5 lg_n)))) lg_wsX3_string
theorem gW_L_moves : GoodIn lw_tbl (va_wsS RL 86 yL_moves wsL_moves) := goodIn_app (lg_c lq_8_5 (lg_c lq_8_6 (lg_c lq_3_14 lg_n))) lg_wsL_moves
theorem gW_X3_moves : GoodIn lw_tbl (wsV RL 88 RX3 yX3_moves wsX3_moves) := goodIn_app (lg_c lq_8_17 (lg_c lq_8_18 (lg_c lq_8_19 (lg_c lq_1_5 lg_n)))) lg_wsX3_moves
theorem gW_L_chord : GoodIn lw_tbl (va_wsS RL 89 yL_chord wsL_chord) := goodIn_app (lg_c lq_8_21 (lg_c lq_8_22 (lg_c lq_3_14 lg_n))) lg_wsL_chord
theorem gW_X3_chord : GoodIn lw_tbl (wsV RL 92 RX3 yX3_chord wsX3_chord) := goodIn_app (lg_c lq_9_15 (lg_c lq_9_16 (lg_c lq_9_17 (lg_c lq_1_5 lg_n)))) lg_wsX3_chord
theorem gW_L_off : GoodIn lw_tbl (va_wsS RL 93 yL_off wsL_off) := goodIn_app (lg_c lq_10_0 (lg_c lq_10_1 (lg_c lq_3_14 lg_n))) lg_wsL_off
theorem gW_X3_off : GoodIn lw_tbl (wsV RL 96 RX3 yX3_off wsX3_off) := goodIn_app (lg_c lq_10_19 (lg_c lq_10_20 (lg_c lq_10_21 (lg_c lq_1_5 lg_n)))) lg_wsX3_off
theorem gW_L_sounds : GoodIn lw_tbl (va_wsS RL 97 yL_sounds wsL_sounds) := goodIn_app (lg_c lq_11_16 (lg_c lq_11_17 (lg_c lq_3_14 lg_n))) lg_wsL_sounds
theorem gW_X3_sounds : GoodIn lw_tbl (wsV RL 99 RX3 yX3_sounds wsX3_sounds) := goodIn_app (lg_c lq_12_7 (lg_c lq_12_8 (lg_c lq_12_9 (lg_c lq_1_5 lg_n)))) lg_wsX3_sounds
theorem gW_L_steps : GoodIn lw_tbl (va_wsS RL 100 yL_steps wsL_steps) := goodIn_app (lg_c lq_12_15 (lg_c lq_12_16 (lg_c lq_3_14 lg_n))) lg_wsL_steps
theorem gW_X3_steps : GoodIn lw_tbl (wsV RL 102 RX3 yX3_steps wsX3_steps) := goodIn_app (lg_c lq_13_7 (lg_c lq_13_8 (lg_c lq_13_9 (lg_c lq_1_5 lg_n)))) lg_wsX3_steps
theorem gW_L_pass : GoodIn lw_tbl (va_wsS RL 103 yL_pass wsL_pass) := goodIn_app (lg_c lq_13_11 (lg_c lq_13_12 (lg_c lq_3_14 lg_n))) lg_wsL_pass
theorem gW_X3_pass : GoodIn lw_tbl (wsV RL 105 RX3 yX3_pass wsX3_pass) := goodIn_app (lg_c lq_15_5 (lg_c lq_15_6 (lg_c lq_15_7 (lg_c lq_1_5 lg_n)))) lg_wsX3_pass
theorem gW_L_count : GoodIn lw_tbl (va_wsS RL 106 yL_count wsL_count) := goodIn_app (lg_c lq_16_2 (lg_c lq_16_3 (lg_c lq_3_14 lg_n))) lg_wsL_count
theorem gW_X3_count : GoodIn lw_tbl (wsV RL 108 RX3 yX3_count wsX3_count) := goodIn_app (lg_c lq_17_4 (lg_c lq_17_5 (lg_c lq_17_6 (lg_c lq_1_5 lg_n)))) lg_wsX3_count
theorem gW_L_bears : GoodIn lw_tbl (va_wsS RL 109 yL_bears wsL_bears) := goodIn_app (lg_c lq_17_12 (lg_c lq_17_13 (lg_c lq_3_14 lg_n))) lg_wsL_bears
theorem gW_X3_bears : GoodIn lw_tbl (wsV RL 111 RX3 yX3_bears wsX3_bears) := goodIn_app (lg_c lq_18_3 (lg_c lq_18_4 (lg_c lq_18_5 (lg_c lq_1_5 lg_n)))) lg_wsX3_bears
theorem gW_X2_first : GoodIn lw_tbl (wsV RL 112 RX2 yX2_first wsX2_first) := goodIn_app (lg_c lq_18_21 (lg_c lq_18_22 (lg_c lq_18_23 (lg_c lq_1_2 lg_n)))) lg_wsX2_first
theorem gW_X3_first : GoodIn lw_tbl (wsV RL 115 RX3 yX3_first wsX3_first) := goodIn_app (lg_c lq_19_5 (lg_c lq_19_6 (lg_c lq_19_7 (lg_c lq_1_5 lg_n)))) lg_wsX3_first
theorem gW_L_holds : GoodIn lw_tbl (va_wsS RL 116 yL_holds wsL_holds) := goodIn_app (lg_c lq_19_13 (lg_c lq_19_14 (lg_c lq_3_14 lg_n))) lg_wsL_holds
theorem gW_X3_holds : GoodIn lw_tbl (wsV RL 118 RX3 yX3_holds wsX3_holds) := goodIn_app (lg_c lq_19_20 (lg_c lq_19_21 (lg_c lq_19_22 (lg_c lq_1_5 lg_n)))) lg_wsX3_holds
theorem gW_L_foresee : GoodIn lw_tbl (va_wsS RL 119 yL_foresee wsL_foresee) := goodIn_app (lg_c lq_20_0 (lg_c lq_20_1 (lg_c lq_3_14 lg_n))) lg_wsL_foresee
theorem gW_X3_foresee : GoodIn lw_tbl (wsV RL 121 RX3 yX3_foresee wsX3_foresee) := goodIn_app (lg_c lq_20_7 (lg_c lq_20_8 (lg_c lq_20_9 (lg_c lq_1_5 lg_n)))) lg_wsX3_foresee
theorem gW_X2_mean : GoodIn lw_tbl (wsV RL 122 RX2 yX2_mean wsX2_mean) := goodIn_app (lg_c lq_20_11 (lg_c lq_20_12 (lg_c lq_20_13 (lg_c lq_1_2 lg_n)))) lg_wsX2_mean
theorem gW_X3_mean : GoodIn lw_tbl (wsV RL 126 RX3 yX3_mean wsX3_mean) := goodIn_app (lg_c lq_20_19 (lg_c lq_20_20 (lg_c lq_20_21 (lg_c lq_1_5 lg_n)))) lg_wsX3_mean
theorem gW_X2_digest : GoodIn lw_tbl (wsV RL 127 RX2 yX2_digest wsX2_digest) := goodIn_app (lg_c lq_20_23 (lg_c lq_21_0 (lg_c lq_21_1 (lg_c lq_1_2 lg_n)))) lg_wsX2_digest
theorem gW_X3_digest : GoodIn lw_tbl (wsV RL 131 RX3 yX3_digest wsX3_digest) := goodIn_app (lg_c lq_21_10 (lg_c lq_21_11 (lg_c lq_21_12 (lg_c lq_1_5 lg_n)))) lg_wsX3_digest
