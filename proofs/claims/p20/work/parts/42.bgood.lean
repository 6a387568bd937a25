/-! the words of the methods that are called there lie in wsL_build -/
def bgd (w : Cond) : Prop := w ∈ wsL_build ∧ goodWord w = true
theorem bg_c {w : Cond} {ws : List Cond} (h : bgd w) (t : GoodIn wsL_build ws) : GoodIn wsL_build (w :: ws) := List.forall_mem_cons.mpr ⟨⟨h.1, good_of_word h.2⟩, t⟩
theorem bg_n : GoodIn wsL_build [] := fun _ h => absurd h List.not_mem_nil
theorem wsL_build_r1_in : ∀ w ∈ wsL_build_r1, w ∈ wsL_build := fun w h => List.mem_cons_of_mem _ (List.mem_append_left _ (List.mem_append_left _ (List.mem_append_left _ (List.mem_append_left _ (List.mem_append_left _ (List.mem_append_left _ (List.mem_append_left _ (List.mem_append_left _ (h)))))))))
theorem wsL_build_r2_in : ∀ w ∈ wsL_build_r2, w ∈ wsL_build := fun w h => List.mem_cons_of_mem _ (List.mem_append_left _ (List.mem_append_left _ (List.mem_append_left _ (List.mem_append_left _ (List.mem_append_left _ (List.mem_append_left _ (List.mem_append_left _ (List.mem_append_right _ (List.mem_append_left _ (h))))))))))
theorem wsL_build_r3_in : ∀ w ∈ wsL_build_r3, w ∈ wsL_build := fun w h => List.mem_cons_of_mem _ (List.mem_append_left _ (List.mem_append_left _ (List.mem_append_left _ (List.mem_append_left _ (List.mem_append_left _ (List.mem_append_left _ (List.mem_append_left _ (List.mem_append_right _ (List.mem_append_right _ (List.mem_append_left _ (h)))))))))))
theorem wsL_build_r4_in : ∀ w ∈ wsL_build_r4, w ∈ wsL_build := fun w h => List.mem_cons_of_mem _ (List.mem_append_left _ (List.mem_append_left _ (List.mem_append_left _ (List.mem_append_left _ (List.mem_append_left _ (List.mem_append_left _ (List.mem_append_left _ (List.mem_append_right _ (List.mem_append_right _ (List.mem_append_right _ (List.mem_append_left _ (h))))))))))))
theorem wsL_build_r5_in : ∀ w ∈ wsL_build_r5, w ∈ wsL_build := fun w h => List.mem_cons_of_mem _ (List.mem_append_left _ (List.mem_append_left _ (List.mem_append_left _ (List.mem_append_left _ (List.mem_append_left _ (List.mem_append_left _ (List.mem_append_left _ (List.mem_append_right _ (List.mem_append_right _ (List.mem_append_right _ (List.mem_append_right _ (h))))))))))))
theorem bg_wsX30 : GoodIn wsL_build wsX30 := goodIn_sub (fun w h => List.mem_cons_of_mem _ (List.mem_append_left _ (List.mem_append_left _ (List.mem_append_left _ (List.mem_append_left _ (List.mem_append_left _ (List.mem_append_left _ (List.mem_append_right _ (h))))))))) (by decide +kernel)
theorem bg_wsX20 : GoodIn wsL_build wsX20 := goodIn_sub (fun w h => List.mem_cons_of_mem _ (List.mem_append_left _ (List.mem_append_left _ (List.mem_append_left _ (List.mem_append_left _ (List.mem_append_left _ (List.mem_append_right _ (h)))))))) (by decide +kernel)
theorem bg_wsX10 : GoodIn wsL_build wsX10 := goodIn_sub (fun w h => List.mem_cons_of_mem _ (List.mem_append_left _ (List.mem_append_left _ (List.mem_append_left _ (List.mem_append_left _ (List.mem_append_right _ (h))))))) (by decide +kernel)
theorem bg_wsX00 : GoodIn wsL_build wsX00 := goodIn_sub (fun w h => List.mem_cons_of_mem _ (List.mem_append_left _ (List.mem_append_left _ (List.mem_append_left _ (List.mem_append_right _ (h)))))) (by decide +kernel)
theorem bg_v2 : GoodIn wsL_build ((vx_atS RX2 77 "java/lang/IndexOutOfBoundsException" ["java/lang/RuntimeException", "java/lang/Exception"]).filter goodWord) := goodIn_sub (fun w h => List.mem_cons_of_mem _ (List.mem_append_left _ (List.mem_append_left _ (List.mem_append_right _ (h))))) (by decide +kernel)
theorem bg_v0 : GoodIn wsL_build ((vx_atS RX2 48 "java/lang/IllegalArgumentException" ["java/lang/RuntimeException", "java/lang/Exception"]).filter goodWord) := goodIn_sub (fun w h => List.mem_cons_of_mem _ (List.mem_append_left _ (List.mem_append_right _ (h)))) (by decide +kernel)
theorem bg_v1 : GoodIn wsL_build ((vx_atS RX2 59 "java/lang/IllegalStateException" ["java/lang/RuntimeException", "java/lang/Exception"]).filter goodWord) := goodIn_sub (fun w h => List.mem_cons_of_mem _ (List.mem_append_right _ (h))) (by decide +kernel)
theorem bq_1_0 : bgd (Cond.classLink RL 16 RX3) := ⟨wsL_build_r1_in _ (List.mem_of_getElem? (i := 0) rfl), by decide +kernel⟩
theorem bq_1_1 : bgd (Cond.instantiable RX3 6) := ⟨wsL_build_r1_in _ (List.mem_of_getElem? (i := 1) rfl), by decide +kernel⟩
theorem bq_1_2 : bgd (Cond.initialized RX3) := ⟨wsL_build_r1_in _ (List.mem_of_getElem? (i := 2) rfl), by decide +kernel⟩
theorem bq_1_3 : bgd (Cond.fieldLink RL 33 "WedgeHarpsLaw$Sim" "wind" "[I") := ⟨wsL_build_r1_in _ (List.mem_of_getElem? (i := 3) rfl), by decide +kernel⟩
theorem bq_1_4 : bgd (Cond.fieldLink RL 37 "WedgeHarpsLaw$Sim" "damp" "[I") := ⟨wsL_build_r1_in _ (List.mem_of_getElem? (i := 4) rfl), by decide +kernel⟩
theorem bq_1_5 : bgd (Cond.fieldLink RL 15 "WedgeHarpsLaw$Sim" "strings" "[[I") := ⟨wsL_build_r1_in _ (List.mem_of_getElem? (i := 5) rfl), by decide +kernel⟩
theorem bq_1_6 : bgd (Cond.methodLink RL 57 yX3_init) := ⟨wsL_build_r1_in _ (List.mem_of_getElem? (i := 6) rfl), by decide +kernel⟩
theorem bq_1_7 : bgd (Cond.instanceMethod yX3_init) := ⟨wsL_build_r1_in _ (List.mem_of_getElem? (i := 7) rfl), by decide +kernel⟩
theorem bq_1_8 : bgd (Cond.code yX3_init cX3_init 2 none) := ⟨wsL_build_r1_in _ (List.mem_of_getElem? (i := 8) rfl), by decide +kernel⟩
theorem bq_1_9 : bgd (Cond.methodLink RX3 1 objectInit) := ⟨wsL_build_r1_in _ (List.mem_of_getElem? (i := 9) rfl), by decide +kernel⟩
theorem bq_1_10 : bgd (Cond.instanceMethod objectInit) := ⟨wsL_build_r1_in _ (List.mem_of_getElem? (i := 10) rfl), by decide +kernel⟩
theorem bq_1_11 : bgd (Cond.code objectInit ⟨#[0xb1]⟩ 1 none) := ⟨wsL_build_r1_in _ (List.mem_of_getElem? (i := 11) rfl), by decide +kernel⟩
theorem bq_1_12 : bgd (Cond.classLink RX3 7 "[I") := ⟨wsL_build_r1_in _ (List.mem_of_getElem? (i := 12) rfl), by decide +kernel⟩
theorem bq_1_13 : bgd (Cond.fieldLink RX3 9 "WedgeHarpsLaw$Sim" "strings" "[[I") := ⟨wsL_build_r1_in _ (List.mem_of_getElem? (i := 13) rfl), by decide +kernel⟩
theorem bq_1_14 : bgd (Cond.fieldLink RX3 15 "WedgeHarpsLaw$Sim" "chords" "[[I") := ⟨wsL_build_r1_in _ (List.mem_of_getElem? (i := 14) rfl), by decide +kernel⟩
theorem bq_1_15 : bgd (Cond.arrayClass .int) := ⟨wsL_build_r1_in _ (List.mem_of_getElem? (i := 15) rfl), by decide +kernel⟩
theorem bq_1_16 : bgd (Cond.fieldLink RX3 18 "WedgeHarpsLaw$Sim" "wind" "[I") := ⟨wsL_build_r1_in _ (List.mem_of_getElem? (i := 16) rfl), by decide +kernel⟩
theorem bq_1_17 : bgd (Cond.fieldLink RX3 21 "WedgeHarpsLaw$Sim" "damp" "[I") := ⟨wsL_build_r1_in _ (List.mem_of_getElem? (i := 17) rfl), by decide +kernel⟩
theorem bq_1_18 : bgd (Cond.methodLink RL 58 yL_cell) := ⟨wsL_build_r1_in _ (List.mem_of_getElem? (i := 18) rfl), by decide +kernel⟩
theorem bq_1_19 : bgd (Cond.static yL_cell) := ⟨wsL_build_r1_in _ (List.mem_of_getElem? (i := 19) rfl), by decide +kernel⟩
theorem bq_1_20 : bgd (Cond.initialized RL) := ⟨wsL_build_r1_in _ (List.mem_of_getElem? (i := 20) rfl), by decide +kernel⟩
theorem bq_1_21 : bgd (Cond.code yL_cell cL_cell 2 (some .int)) := ⟨wsL_build_r1_in _ (List.mem_of_getElem? (i := 21) rfl), by decide +kernel⟩
theorem bq_1_22 : bgd (Cond.constant RL 8 (790386105)) := ⟨wsL_build_r1_in _ (List.mem_of_getElem? (i := 22) rfl), by decide +kernel⟩
theorem bq_1_23 : bgd (Cond.methodLink RL 9 yL_below) := ⟨wsL_build_r1_in _ (List.mem_of_getElem? (i := 23) rfl), by decide +kernel⟩
theorem bq_2_0 : bgd (Cond.static yL_below) := ⟨wsL_build_r2_in _ (List.mem_of_getElem? (i := 0) rfl), by decide +kernel⟩
theorem bq_2_1 : bgd (Cond.code yL_below cL_below 2 (some .int)) := ⟨wsL_build_r2_in _ (List.mem_of_getElem? (i := 1) rfl), by decide +kernel⟩
theorem bq_2_2 : bgd (Cond.constant RL 7 (2147483647)) := ⟨wsL_build_r2_in _ (List.mem_of_getElem? (i := 2) rfl), by decide +kernel⟩
theorem bq_2_3 : bgd (Cond.methodLink RL 40 yX2_setWeather) := ⟨wsL_build_r2_in _ (List.mem_of_getElem? (i := 3) rfl), by decide +kernel⟩
theorem bq_2_4 : bgd (Cond.instanceMethod yX2_setWeather) := ⟨wsL_build_r2_in _ (List.mem_of_getElem? (i := 4) rfl), by decide +kernel⟩
theorem bq_2_5 : bgd (Cond.selects RX2 yX2_setWeather yX2_setWeather) := ⟨wsL_build_r2_in _ (List.mem_of_getElem? (i := 5) rfl), by decide +kernel⟩
theorem bq_2_6 : bgd (Cond.initialized RX2) := ⟨wsL_build_r2_in _ (List.mem_of_getElem? (i := 6) rfl), by decide +kernel⟩
theorem bq_2_7 : bgd (Cond.code yX2_setWeather cX2_setWeather 5 (some .int)) := ⟨wsL_build_r2_in _ (List.mem_of_getElem? (i := 7) rfl), by decide +kernel⟩
theorem bq_2_8 : bgd (Cond.classLink RX2 73 "java/lang/IndexOutOfBoundsException") := ⟨wsL_build_r2_in _ (List.mem_of_getElem? (i := 8) rfl), by decide +kernel⟩
theorem bq_2_9 : bgd (Cond.initialized "java/lang/IndexOutOfBoundsException") := ⟨wsL_build_r2_in _ (List.mem_of_getElem? (i := 9) rfl), by decide +kernel⟩
theorem bq_2_10 : bgd (Cond.classLink RX2 44 "java/lang/IllegalArgumentException") := ⟨wsL_build_r2_in _ (List.mem_of_getElem? (i := 10) rfl), by decide +kernel⟩
theorem bq_2_11 : bgd (Cond.initialized "java/lang/IllegalArgumentException") := ⟨wsL_build_r2_in _ (List.mem_of_getElem? (i := 11) rfl), by decide +kernel⟩
theorem bq_2_12 : bgd (Cond.fieldLink RX2 19 "WedgeHarps" "windTable" "[I") := ⟨wsL_build_r2_in _ (List.mem_of_getElem? (i := 12) rfl), by decide +kernel⟩
theorem bq_2_13 : bgd (Cond.fieldLink RX2 23 "WedgeHarps" "dampTable" "[I") := ⟨wsL_build_r2_in _ (List.mem_of_getElem? (i := 13) rfl), by decide +kernel⟩
theorem bq_2_14 : bgd (Cond.methodLink RX2 82 yX2_weatherAt) := ⟨wsL_build_r2_in _ (List.mem_of_getElem? (i := 14) rfl), by decide +kernel⟩
theorem bq_2_15 : bgd (Cond.instanceMethod yX2_weatherAt) := ⟨wsL_build_r2_in _ (List.mem_of_getElem? (i := 15) rfl), by decide +kernel⟩
theorem bq_2_16 : bgd (Cond.selects RX2 yX2_weatherAt yX2_weatherAt) := ⟨wsL_build_r2_in _ (List.mem_of_getElem? (i := 16) rfl), by decide +kernel⟩
theorem bq_2_17 : bgd (Cond.code yX2_weatherAt cX2_weatherAt 2 (some .int)) := ⟨wsL_build_r2_in _ (List.mem_of_getElem? (i := 17) rfl), by decide +kernel⟩
theorem bq_2_18 : bgd (Cond.methodLink RL 30 yX2_draw) := ⟨wsL_build_r2_in _ (List.mem_of_getElem? (i := 18) rfl), by decide +kernel⟩
theorem bq_2_19 : bgd (Cond.instanceMethod yX2_draw) := ⟨wsL_build_r2_in _ (List.mem_of_getElem? (i := 19) rfl), by decide +kernel⟩
theorem bq_2_20 : bgd (Cond.selects RX2 yX2_draw yX2_draw) := ⟨wsL_build_r2_in _ (List.mem_of_getElem? (i := 20) rfl), by decide +kernel⟩
theorem bq_2_21 : bgd (Cond.code yX2_draw cX2_draw 3 (some .int)) := ⟨wsL_build_r2_in _ (List.mem_of_getElem? (i := 21) rfl), by decide +kernel⟩
theorem bq_2_22 : bgd (Cond.fieldLink RX2 10 "WedgeHarps" "now" "LWedgeHarps$Harp;") := ⟨wsL_build_r2_in _ (List.mem_of_getElem? (i := 22) rfl), by decide +kernel⟩
theorem bq_2_23 : bgd (Cond.methodLink RX2 37 yX2_checkString) := ⟨wsL_build_r2_in _ (List.mem_of_getElem? (i := 23) rfl), by decide +kernel⟩
theorem bq_3_0 : bgd (Cond.static yX2_checkString) := ⟨wsL_build_r3_in _ (List.mem_of_getElem? (i := 0) rfl), by decide +kernel⟩
theorem bq_3_1 : bgd (Cond.code yX2_checkString cX2_checkString 1 none) := ⟨wsL_build_r3_in _ (List.mem_of_getElem? (i := 1) rfl), by decide +kernel⟩
theorem bq_3_2 : bgd (Cond.methodLink RX2 69 yX1_renew) := ⟨wsL_build_r3_in _ (List.mem_of_getElem? (i := 2) rfl), by decide +kernel⟩
theorem bq_3_3 : bgd (Cond.instanceMethod yX1_renew) := ⟨wsL_build_r3_in _ (List.mem_of_getElem? (i := 3) rfl), by decide +kernel⟩
theorem bq_3_4 : bgd (Cond.selects RX1 yX1_renew yX1_renew) := ⟨wsL_build_r3_in _ (List.mem_of_getElem? (i := 4) rfl), by decide +kernel⟩
theorem bq_3_5 : bgd (Cond.initialized RX1) := ⟨wsL_build_r3_in _ (List.mem_of_getElem? (i := 5) rfl), by decide +kernel⟩
theorem bq_3_6 : bgd (Cond.code yX1_renew cX1_renew 3 none) := ⟨wsL_build_r3_in _ (List.mem_of_getElem? (i := 6) rfl), by decide +kernel⟩
theorem bq_3_7 : bgd (Cond.fieldLink RX1 9 "WedgeHarps$Harp" "base" "[I") := ⟨wsL_build_r3_in _ (List.mem_of_getElem? (i := 7) rfl), by decide +kernel⟩
theorem bq_3_8 : bgd (Cond.fieldLink RX1 18 "WedgeHarps$Harp" "drift" "[I") := ⟨wsL_build_r3_in _ (List.mem_of_getElem? (i := 8) rfl), by decide +kernel⟩
theorem bq_3_9 : bgd (Cond.fieldLink RX1 21 "WedgeHarps$Harp" "strain" "[I") := ⟨wsL_build_r3_in _ (List.mem_of_getElem? (i := 9) rfl), by decide +kernel⟩
theorem bq_3_10 : bgd (Cond.fieldLink RX1 27 "WedgeHarps$Harp" "whole" "[Z") := ⟨wsL_build_r3_in _ (List.mem_of_getElem? (i := 10) rfl), by decide +kernel⟩
theorem bq_3_11 : bgd (Cond.methodLink RX2 63 yX1_toneOf) := ⟨wsL_build_r3_in _ (List.mem_of_getElem? (i := 11) rfl), by decide +kernel⟩
theorem bq_3_12 : bgd (Cond.instanceMethod yX1_toneOf) := ⟨wsL_build_r3_in _ (List.mem_of_getElem? (i := 12) rfl), by decide +kernel⟩
theorem bq_3_13 : bgd (Cond.selects RX1 yX1_toneOf yX1_toneOf) := ⟨wsL_build_r3_in _ (List.mem_of_getElem? (i := 13) rfl), by decide +kernel⟩
theorem bq_3_14 : bgd (Cond.code yX1_toneOf cX1_toneOf 3 (some .int)) := ⟨wsL_build_r3_in _ (List.mem_of_getElem? (i := 14) rfl), by decide +kernel⟩
theorem bq_3_15 : bgd (Cond.fieldLink RX1 15 "WedgeHarps$Harp" "wedge" "[I") := ⟨wsL_build_r3_in _ (List.mem_of_getElem? (i := 15) rfl), by decide +kernel⟩
theorem bq_3_16 : bgd (Cond.fieldLink RX1 31 "WedgeHarps$Harp" "swelling" "I") := ⟨wsL_build_r3_in _ (List.mem_of_getElem? (i := 16) rfl), by decide +kernel⟩
theorem bq_3_17 : bgd (Cond.methodLink RL 26 yX3_tone) := ⟨wsL_build_r3_in _ (List.mem_of_getElem? (i := 17) rfl), by decide +kernel⟩
theorem bq_3_18 : bgd (Cond.instanceMethod yX3_tone) := ⟨wsL_build_r3_in _ (List.mem_of_getElem? (i := 18) rfl), by decide +kernel⟩
theorem bq_3_19 : bgd (Cond.selects RX3 yX3_tone yX3_tone) := ⟨wsL_build_r3_in _ (List.mem_of_getElem? (i := 19) rfl), by decide +kernel⟩
theorem bq_3_20 : bgd (Cond.code yX3_tone cX3_tone 4 (some .int)) := ⟨wsL_build_r3_in _ (List.mem_of_getElem? (i := 20) rfl), by decide +kernel⟩
theorem bq_3_21 : bgd (Cond.fieldLink RX3 29 "WedgeHarpsLaw$Sim" "swelling" "I") := ⟨wsL_build_r3_in _ (List.mem_of_getElem? (i := 21) rfl), by decide +kernel⟩
theorem bq_3_22 : bgd (Cond.methodLink RL 21 yX2_push) := ⟨wsL_build_r3_in _ (List.mem_of_getElem? (i := 22) rfl), by decide +kernel⟩
theorem bq_3_23 : bgd (Cond.instanceMethod yX2_push) := ⟨wsL_build_r3_in _ (List.mem_of_getElem? (i := 23) rfl), by decide +kernel⟩
theorem bq_4_0 : bgd (Cond.selects RX2 yX2_push yX2_push) := ⟨wsL_build_r4_in _ (List.mem_of_getElem? (i := 0) rfl), by decide +kernel⟩
theorem bq_4_1 : bgd (Cond.code yX2_push cX2_push 3 (some .int)) := ⟨wsL_build_r4_in _ (List.mem_of_getElem? (i := 1) rfl), by decide +kernel⟩
theorem bq_4_2 : bgd (Cond.classLink RX2 55 "java/lang/IllegalStateException") := ⟨wsL_build_r4_in _ (List.mem_of_getElem? (i := 2) rfl), by decide +kernel⟩
theorem bq_4_3 : bgd (Cond.initialized "java/lang/IllegalStateException") := ⟨wsL_build_r4_in _ (List.mem_of_getElem? (i := 3) rfl), by decide +kernel⟩
theorem bq_4_4 : bgd (Cond.fieldLink RX2 60 "WedgeHarps$Harp" "wedge" "[I") := ⟨wsL_build_r4_in _ (List.mem_of_getElem? (i := 4) rfl), by decide +kernel⟩
theorem bq_4_5 : bgd (Cond.methodLink RX2 41 yX2_checkWedgeSteps) := ⟨wsL_build_r4_in _ (List.mem_of_getElem? (i := 5) rfl), by decide +kernel⟩
theorem bq_4_6 : bgd (Cond.static yX2_checkWedgeSteps) := ⟨wsL_build_r4_in _ (List.mem_of_getElem? (i := 6) rfl), by decide +kernel⟩
theorem bq_4_7 : bgd (Cond.code yX2_checkWedgeSteps cX2_checkWedgeSteps 1 none) := ⟨wsL_build_r4_in _ (List.mem_of_getElem? (i := 7) rfl), by decide +kernel⟩
theorem bq_4_8 : bgd (Cond.methodLink RX2 51 yX1_takesPush) := ⟨wsL_build_r4_in _ (List.mem_of_getElem? (i := 8) rfl), by decide +kernel⟩
theorem bq_4_9 : bgd (Cond.instanceMethod yX1_takesPush) := ⟨wsL_build_r4_in _ (List.mem_of_getElem? (i := 9) rfl), by decide +kernel⟩
theorem bq_4_10 : bgd (Cond.selects RX1 yX1_takesPush yX1_takesPush) := ⟨wsL_build_r4_in _ (List.mem_of_getElem? (i := 10) rfl), by decide +kernel⟩
theorem bq_4_11 : bgd (Cond.code yX1_takesPush cX1_takesPush 4 (some .boolean)) := ⟨wsL_build_r4_in _ (List.mem_of_getElem? (i := 11) rfl), by decide +kernel⟩
theorem bq_4_12 : bgd (Cond.methodLink RL 62 yL_act) := ⟨wsL_build_r4_in _ (List.mem_of_getElem? (i := 12) rfl), by decide +kernel⟩
theorem bq_4_13 : bgd (Cond.static yL_act) := ⟨wsL_build_r4_in _ (List.mem_of_getElem? (i := 13) rfl), by decide +kernel⟩
theorem bq_4_14 : bgd (Cond.code yL_act cL_act 12 (some .boolean)) := ⟨wsL_build_r4_in _ (List.mem_of_getElem? (i := 14) rfl), by decide +kernel⟩
theorem bq_4_15 : bgd (Cond.fieldLink RL 44 "WedgeHarpsLaw$Sim" "chords" "[[I") := ⟨wsL_build_r4_in _ (List.mem_of_getElem? (i := 15) rfl), by decide +kernel⟩
theorem bq_4_16 : bgd (Cond.methodLink RL 47 Lib.Math.max.name) := ⟨wsL_build_r4_in _ (List.mem_of_getElem? (i := 16) rfl), by decide +kernel⟩
theorem bq_4_17 : bgd (Cond.static Lib.Math.max.name) := ⟨wsL_build_r4_in _ (List.mem_of_getElem? (i := 17) rfl), by decide +kernel⟩
theorem bq_4_18 : bgd (Cond.initialized "java/lang/Math") := ⟨wsL_build_r4_in _ (List.mem_of_getElem? (i := 18) rfl), by decide +kernel⟩
theorem bq_4_19 : bgd (Cond.code Lib.Math.max.name Lib.Math.max.code 2 (some .int)) := ⟨wsL_build_r4_in _ (List.mem_of_getElem? (i := 19) rfl), by decide +kernel⟩
theorem bq_4_20 : bgd (Cond.classLink RL 52 "[I") := ⟨wsL_build_r4_in _ (List.mem_of_getElem? (i := 20) rfl), by decide +kernel⟩
theorem bq_4_21 : bgd (Cond.methodLink RL 53 yX2_chord) := ⟨wsL_build_r4_in _ (List.mem_of_getElem? (i := 21) rfl), by decide +kernel⟩
theorem bq_4_22 : bgd (Cond.instanceMethod yX2_chord) := ⟨wsL_build_r4_in _ (List.mem_of_getElem? (i := 22) rfl), by decide +kernel⟩
theorem bq_4_23 : bgd (Cond.selects RX2 yX2_chord yX2_chord) := ⟨wsL_build_r4_in _ (List.mem_of_getElem? (i := 23) rfl), by decide +kernel⟩
theorem bq_5_0 : bgd (Cond.code yX2_chord cX2_chord 8 (some .int)) := ⟨wsL_build_r5_in _ (List.mem_of_getElem? (i := 0) rfl), by decide +kernel⟩
theorem bq_5_1 : bgd (Cond.fieldLink RX2 33 "WedgeHarps" "told" "I") := ⟨wsL_build_r5_in _ (List.mem_of_getElem? (i := 1) rfl), by decide +kernel⟩
theorem bq_5_2 : bgd (Cond.fieldLink RX2 28 "WedgeHarps" "chords" "[LWedgeHarps$Chord;") := ⟨wsL_build_r5_in _ (List.mem_of_getElem? (i := 2) rfl), by decide +kernel⟩
theorem bq_5_3 : bgd (Cond.methodLink RX2 100 yX2_checkTone) := ⟨wsL_build_r5_in _ (List.mem_of_getElem? (i := 3) rfl), by decide +kernel⟩
theorem bq_5_4 : bgd (Cond.static yX2_checkTone) := ⟨wsL_build_r5_in _ (List.mem_of_getElem? (i := 4) rfl), by decide +kernel⟩
theorem bq_5_5 : bgd (Cond.code yX2_checkTone cX2_checkTone 2 none) := ⟨wsL_build_r5_in _ (List.mem_of_getElem? (i := 5) rfl), by decide +kernel⟩
theorem bq_5_6 : bgd (Cond.methodLink RX2 109 yX0_place) := ⟨wsL_build_r5_in _ (List.mem_of_getElem? (i := 6) rfl), by decide +kernel⟩
theorem bq_5_7 : bgd (Cond.instanceMethod yX0_place) := ⟨wsL_build_r5_in _ (List.mem_of_getElem? (i := 7) rfl), by decide +kernel⟩
theorem bq_5_8 : bgd (Cond.selects RX0 yX0_place yX0_place) := ⟨wsL_build_r5_in _ (List.mem_of_getElem? (i := 8) rfl), by decide +kernel⟩
theorem bq_5_9 : bgd (Cond.initialized RX0) := ⟨wsL_build_r5_in _ (List.mem_of_getElem? (i := 9) rfl), by decide +kernel⟩
theorem bq_5_10 : bgd (Cond.code yX0_place cX0_place 3 none) := ⟨wsL_build_r5_in _ (List.mem_of_getElem? (i := 10) rfl), by decide +kernel⟩
theorem bq_5_11 : bgd (Cond.fieldLink RX0 15 "WedgeHarps$Chord" "lowest" "I") := ⟨wsL_build_r5_in _ (List.mem_of_getElem? (i := 11) rfl), by decide +kernel⟩
theorem bq_5_12 : bgd (Cond.fieldLink RX0 19 "WedgeHarps$Chord" "size" "I") := ⟨wsL_build_r5_in _ (List.mem_of_getElem? (i := 12) rfl), by decide +kernel⟩
theorem bq_5_13 : bgd (Cond.methodLink RX2 112 yX0_tune) := ⟨wsL_build_r5_in _ (List.mem_of_getElem? (i := 13) rfl), by decide +kernel⟩
theorem bq_5_14 : bgd (Cond.instanceMethod yX0_tune) := ⟨wsL_build_r5_in _ (List.mem_of_getElem? (i := 14) rfl), by decide +kernel⟩
theorem bq_5_15 : bgd (Cond.selects RX0 yX0_tune yX0_tune) := ⟨wsL_build_r5_in _ (List.mem_of_getElem? (i := 15) rfl), by decide +kernel⟩
theorem bq_5_16 : bgd (Cond.code yX0_tune cX0_tune 5 none) := ⟨wsL_build_r5_in _ (List.mem_of_getElem? (i := 16) rfl), by decide +kernel⟩
theorem bq_5_17 : bgd (Cond.fieldLink RX0 9 "WedgeHarps$Chord" "tones" "[I") := ⟨wsL_build_r5_in _ (List.mem_of_getElem? (i := 17) rfl), by decide +kernel⟩
theorem bg_wsL_act_r1 : GoodIn wsL_build wsL_act_r1 := (bg_c bq_1_5 (bg_c bq_1_15 (bg_c bq_1_3 (bg_c bq_1_4 (bg_c bq_4_15 (bg_c bq_4_16 (bg_c bq_4_17 (bg_c bq_4_18 (bg_c bq_4_19 (bg_c bq_4_20 (bg_c bq_1_23 (bg_c bq_2_0 (bg_c bq_1_20 (bg_c bq_2_1 (bg_c bq_2_2 (bg_c bq_3_22 (bg_c bq_3_23 (bg_c bq_4_0 (bg_c bq_2_6 (bg_c bq_4_1 (bg_c bq_2_10 (bg_c bq_2_11 (bg_c bq_4_2 (bg_c bq_4_3 bg_n))))))))))))))))))))))))
theorem bg_wsL_act_r2 : GoodIn wsL_build wsL_act_r2 := (bg_c bq_2_22 (bg_c bq_4_4 (bg_c bq_2_23 (bg_c bq_3_0 (bg_c bq_3_1 (bg_c bq_2_8 (bg_c bq_2_9 (bg_c bq_4_5 (bg_c bq_4_6 (bg_c bq_4_7 (bg_c bq_4_8 (bg_c bq_4_9 (bg_c bq_4_10 (bg_c bq_3_5 (bg_c bq_4_11 (bg_c bq_3_15 (bg_c bq_3_11 (bg_c bq_3_12 (bg_c bq_3_13 (bg_c bq_3_14 (bg_c bq_3_10 (bg_c bq_3_7 (bg_c bq_3_8 (bg_c bq_3_16 bg_n))))))))))))))))))))))))
theorem bg_wsL_act_r3 : GoodIn wsL_build wsL_act_r3 := (bg_c bq_3_17 (bg_c bq_3_18 (bg_c bq_3_19 (bg_c bq_1_2 (bg_c bq_3_20 (bg_c bq_1_13 (bg_c bq_3_21 (bg_c bq_2_18 (bg_c bq_2_19 (bg_c bq_2_20 (bg_c bq_2_21 (bg_c bq_3_2 (bg_c bq_3_3 (bg_c bq_3_4 (bg_c bq_3_6 (bg_c bq_3_9 (bg_c bq_2_3 (bg_c bq_2_4 (bg_c bq_2_5 (bg_c bq_2_7 (bg_c bq_2_12 (bg_c bq_2_13 (bg_c bq_2_14 (bg_c bq_2_15 bg_n))))))))))))))))))))))))
theorem bg_wsL_act_r4 : GoodIn wsL_build wsL_act_r4 := (bg_c bq_2_16 (bg_c bq_2_17 (bg_c bq_4_21 (bg_c bq_4_22 (bg_c bq_4_23 (bg_c bq_5_0 (bg_c bq_5_1 (bg_c bq_5_2 (bg_c bq_5_3 (bg_c bq_5_4 (bg_c bq_5_5 (bg_c bq_5_6 (bg_c bq_5_7 (bg_c bq_5_8 (bg_c bq_5_9 (bg_c bq_5_10 (bg_c bq_5_11 (bg_c bq_5_12 (bg_c bq_5_13 (bg_c bq_5_14 (bg_c bq_5_15 (bg_c bq_5_16 (bg_c bq_5_17 bg_n)))))))))))))))))))))))
theorem bg_wsL_act : GoodIn wsL_build wsL_act := (bg_c bq_4_14 (goodIn_app (goodIn_app (goodIn_app (goodIn_app (goodIn_app (goodIn_app (goodIn_app (goodIn_app bg_wsL_act_r1 (goodIn_app bg_wsL_act_r2 (goodIn_app bg_wsL_act_r3 bg_wsL_act_r4))) bg_wsX30) bg_wsX20) bg_wsX10) bg_wsX00) bg_v0) bg_v1) bg_v2))
theorem gL_build_L_act : GoodIn wsL_build (va_wsS RL 62 yL_act wsL_act) := goodIn_app (bg_c bq_4_12 (bg_c bq_4_13 (bg_c bq_1_20 bg_n))) bg_wsL_act
