set_option maxRecDepth 20000 in
theorem ggX2_init_X1_init : GoodIn wsX2_init wsX1_init := goodIn_r _ [19, 20, 2, 3, 9, 21, 22, 23, 24, 25, 26, 27, 28, 29, 37, 38, 39, 40, 41, 42, 43, 44] (by decide +kernel) (by decide +kernel)
set_option maxRecDepth 20000 in
theorem gX2_init_X1_init : GoodIn wsX2_init (wsX1_init) := ggX2_init_X1_init
set_option maxRecDepth 20000 in
theorem ggX2_init_X0_init : GoodIn wsX2_init wsX0_init := goodIn_r _ [32, 33, 2, 3, 9, 34, 35, 36, 51, 52, 53] (by decide +kernel) (by decide +kernel)
set_option maxRecDepth 20000 in
theorem gX2_init_X0_init : GoodIn wsX2_init (wsX0_init) := ggX2_init_X0_init
theorem dX2_init_0 : decode cX2_init 0 = .ok (.aload_n 0, 1) := by decide +kernel
theorem dX2_init_1 : decode cX2_init 1 = .ok (.invokespecial 1, 3) := by decide +kernel
theorem dX2_init_4 : decode cX2_init 4 = .ok (.aload_n 0, 1) := by decide +kernel
theorem dX2_init_5 : decode cX2_init 5 = .ok (.new 7, 3) := by decide +kernel
theorem dX2_init_8 : decode cX2_init 8 = .ok (.dup, 1) := by decide +kernel
theorem dX2_init_9 : decode cX2_init 9 = .ok (.invokespecial 9, 3) := by decide +kernel
theorem dX2_init_12 : decode cX2_init 12 = .ok (.putfield 10, 3) := by decide +kernel
theorem dX2_init_15 : decode cX2_init 15 = .ok (.aload_n 0, 1) := by decide +kernel
theorem dX2_init_16 : decode cX2_init 16 = .ok (.new 7, 3) := by decide +kernel
theorem dX2_init_19 : decode cX2_init 19 = .ok (.dup, 1) := by decide +kernel
theorem dX2_init_20 : decode cX2_init 20 = .ok (.invokespecial 9, 3) := by decide +kernel
theorem dX2_init_23 : decode cX2_init 23 = .ok (.putfield 16, 3) := by decide +kernel
theorem dX2_init_26 : decode cX2_init 26 = .ok (.aload_n 0, 1) := by decide +kernel
theorem dX2_init_27 : decode cX2_init 27 = .ok (.bipush 12, 2) := by decide +kernel
theorem dX2_init_29 : decode cX2_init 29 = .ok (.newarray .int, 2) := by decide +kernel
theorem dX2_init_31 : decode cX2_init 31 = .ok (.putfield 19, 3) := by decide +kernel
theorem dX2_init_34 : decode cX2_init 34 = .ok (.aload_n 0, 1) := by decide +kernel
theorem dX2_init_35 : decode cX2_init 35 = .ok (.bipush 12, 2) := by decide +kernel
theorem dX2_init_37 : decode cX2_init 37 = .ok (.newarray .int, 2) := by decide +kernel
theorem dX2_init_39 : decode cX2_init 39 = .ok (.putfield 23, 3) := by decide +kernel
theorem dX2_init_42 : decode cX2_init 42 = .ok (.aload_n 0, 1) := by decide +kernel
theorem dX2_init_43 : decode cX2_init 43 = .ok (.bipush 6, 2) := by decide +kernel
theorem dX2_init_45 : decode cX2_init 45 = .ok (.anewarray 26, 3) := by decide +kernel
theorem dX2_init_48 : decode cX2_init 48 = .ok (.putfield 28, 3) := by decide +kernel
theorem dX2_init_51 : decode cX2_init 51 = .ok (.iconst 0, 1) := by decide +kernel
theorem dX2_init_52 : decode cX2_init 52 = .ok (.istore_n 1, 1) := by decide +kernel
theorem dX2_init_53 : decode cX2_init 53 = .ok (.iload_n 1, 1) := by decide +kernel
theorem dX2_init_54 : decode cX2_init 54 = .ok (.bipush 6, 2) := by decide +kernel
theorem dX2_init_56 : decode cX2_init 56 = .ok (.if_icmp .ge 22, 3) := by decide +kernel
theorem dX2_init_59 : decode cX2_init 59 = .ok (.aload_n 0, 1) := by decide +kernel
theorem dX2_init_60 : decode cX2_init 60 = .ok (.getfield 28, 3) := by decide +kernel
theorem dX2_init_63 : decode cX2_init 63 = .ok (.iload_n 1, 1) := by decide +kernel
theorem dX2_init_64 : decode cX2_init 64 = .ok (.new 26, 3) := by decide +kernel
theorem dX2_init_67 : decode cX2_init 67 = .ok (.dup, 1) := by decide +kernel
theorem dX2_init_68 : decode cX2_init 68 = .ok (.invokespecial 32, 3) := by decide +kernel
theorem dX2_init_71 : decode cX2_init 71 = .ok (.aastore, 1) := by decide +kernel
theorem dX2_init_72 : decode cX2_init 72 = .ok (.iinc 1 1, 3) := by decide +kernel
theorem dX2_init_75 : decode cX2_init 75 = .ok (.goto (-22), 3) := by decide +kernel
theorem dX2_init_78 : decode cX2_init 78 = .ok (.aload_n 0, 1) := by decide +kernel
theorem dX2_init_79 : decode cX2_init 79 = .ok (.iconst 0, 1) := by decide +kernel
theorem dX2_init_80 : decode cX2_init 80 = .ok (.putfield 33, 3) := by decide +kernel
theorem dX2_init_83 : decode cX2_init 83 = .ok (.return_, 1) := by decide +kernel
set_option maxRecDepth 20000 in
theorem ggX2_push_X2_checkString : GoodIn wsX2_push wsX2_checkString := goodIn_ca (goodIn_r _ [10, 11, 12] (by decide +kernel) (by decide +kernel)) (goodIn_sub (fun _ h => List.mem_cons_of_mem _ (List.mem_append_right _ h)) (by decide +kernel))
set_option maxRecDepth 20000 in
theorem gX2_push_X2_checkString : GoodIn wsX2_push (va_wsS RX2 37 yX2_checkString wsX2_checkString) := goodIn_app (goodIn_of _ (by decide +kernel)) ggX2_push_X2_checkString
set_option maxRecDepth 20000 in
theorem ggX2_push_X2_checkWedgeSteps : GoodIn wsX2_push wsX2_checkWedgeSteps := goodIn_ca (goodIn_r _ [15, 1, 2] (by decide +kernel) (by decide +kernel)) (goodIn_sub (fun _ h => List.mem_cons_of_mem _ (List.mem_append_left _ (List.mem_append_left _ (List.mem_append_right _ h)))) (by decide +kernel))
set_option maxRecDepth 20000 in
theorem gX2_push_X2_checkWedgeSteps : GoodIn wsX2_push (va_wsS RX2 41 yX2_checkWedgeSteps wsX2_checkWedgeSteps) := goodIn_app (goodIn_of _ (by decide +kernel)) ggX2_push_X2_checkWedgeSteps
set_option maxRecDepth 20000 in
theorem ggX2_push_X1_takesPush : GoodIn wsX2_push wsX1_takesPush := goodIn_r _ [20, 21, 36, 37, 38, 39, 40, 41, 42, 43] (by decide +kernel) (by decide +kernel)
set_option maxRecDepth 20000 in
theorem gX2_push_X1_takesPush : GoodIn wsX2_push (wsV RX2 51 RX1 yX1_takesPush wsX1_takesPush) := goodIn_app (goodIn_of _ (by decide +kernel)) ggX2_push_X1_takesPush
set_option maxRecDepth 20000 in
theorem ggX2_push_X1_toneOf : GoodIn wsX2_push wsX1_toneOf := goodIn_r _ [25, 26, 21, 27, 28, 29, 36, 37, 38, 39, 40, 41, 42, 43] (by decide +kernel) (by decide +kernel)
set_option maxRecDepth 20000 in
theorem gX2_push_X1_toneOf : GoodIn wsX2_push (wsV RX2 63 RX1 yX1_toneOf wsX1_toneOf) := goodIn_app (goodIn_of _ (by decide +kernel)) ggX2_push_X1_toneOf
theorem dX2_push_0 : decode cX2_push 0 = .ok (.iload_n 1, 1) := by decide +kernel
theorem dX2_push_1 : decode cX2_push 1 = .ok (.invokestatic 37, 3) := by decide +kernel
theorem dX2_push_4 : decode cX2_push 4 = .ok (.iload_n 2, 1) := by decide +kernel
theorem dX2_push_5 : decode cX2_push 5 = .ok (.invokestatic 41, 3) := by decide +kernel
theorem dX2_push_8 : decode cX2_push 8 = .ok (.iload_n 2, 1) := by decide +kernel
theorem dX2_push_9 : decode cX2_push 9 = .ok (.ifCond .ne 13, 3) := by decide +kernel
theorem dX2_push_12 : decode cX2_push 12 = .ok (.new 44, 3) := by decide +kernel
theorem dX2_push_15 : decode cX2_push 15 = .ok (.dup, 1) := by decide +kernel
theorem dX2_push_16 : decode cX2_push 16 = .ok (.ldc 46, 2) := by decide +kernel
theorem dX2_push_18 : decode cX2_push 18 = .ok (.invokespecial 48, 3) := by decide +kernel
theorem dX2_push_21 : decode cX2_push 21 = .ok (.athrow, 1) := by decide +kernel
theorem dX2_push_22 : decode cX2_push 22 = .ok (.aload_n 0, 1) := by decide +kernel
theorem dX2_push_23 : decode cX2_push 23 = .ok (.getfield 10, 3) := by decide +kernel
theorem dX2_push_26 : decode cX2_push 26 = .ok (.iload_n 1, 1) := by decide +kernel
theorem dX2_push_27 : decode cX2_push 27 = .ok (.iload_n 2, 1) := by decide +kernel
theorem dX2_push_28 : decode cX2_push 28 = .ok (.invokevirtual 51, 3) := by decide +kernel
theorem dX2_push_31 : decode cX2_push 31 = .ok (.ifCond .ne 13, 3) := by decide +kernel
theorem dX2_push_34 : decode cX2_push 34 = .ok (.new 55, 3) := by decide +kernel
theorem dX2_push_37 : decode cX2_push 37 = .ok (.dup, 1) := by decide +kernel
theorem dX2_push_38 : decode cX2_push 38 = .ok (.ldc 57, 2) := by decide +kernel
theorem dX2_push_40 : decode cX2_push 40 = .ok (.invokespecial 59, 3) := by decide +kernel
theorem dX2_push_43 : decode cX2_push 43 = .ok (.athrow, 1) := by decide +kernel
theorem dX2_push_44 : decode cX2_push 44 = .ok (.aload_n 0, 1) := by decide +kernel
theorem dX2_push_45 : decode cX2_push 45 = .ok (.getfield 10, 3) := by decide +kernel
theorem dX2_push_48 : decode cX2_push 48 = .ok (.getfield 60, 3) := by decide +kernel
theorem dX2_push_51 : decode cX2_push 51 = .ok (.iload_n 1, 1) := by decide +kernel
theorem dX2_push_52 : decode cX2_push 52 = .ok (.dup2, 1) := by decide +kernel
theorem dX2_push_53 : decode cX2_push 53 = .ok (.iaload, 1) := by decide +kernel
theorem dX2_push_54 : decode cX2_push 54 = .ok (.iload_n 2, 1) := by decide +kernel
theorem dX2_push_55 : decode cX2_push 55 = .ok (.iadd, 1) := by decide +kernel
theorem dX2_push_56 : decode cX2_push 56 = .ok (.iastore, 1) := by decide +kernel
theorem dX2_push_57 : decode cX2_push 57 = .ok (.aload_n 0, 1) := by decide +kernel
theorem dX2_push_58 : decode cX2_push 58 = .ok (.getfield 10, 3) := by decide +kernel
theorem dX2_push_61 : decode cX2_push 61 = .ok (.iload_n 1, 1) := by decide +kernel
theorem dX2_push_62 : decode cX2_push 62 = .ok (.invokevirtual 63, 3) := by decide +kernel
theorem dX2_push_65 : decode cX2_push 65 = .ok (.ireturn, 1) := by decide +kernel
set_option maxRecDepth 20000 in
theorem ggX2_draw_X2_checkString : GoodIn wsX2_draw wsX2_checkString := goodIn_ca (goodIn_r _ [7, 8, 9] (by decide +kernel) (by decide +kernel)) (goodIn_sub (fun _ h => List.mem_cons_of_mem _ (List.mem_append_right _ h)) (by decide +kernel))
set_option maxRecDepth 20000 in
theorem gX2_draw_X2_checkString : GoodIn wsX2_draw (va_wsS RX2 37 yX2_checkString wsX2_checkString) := goodIn_app (goodIn_of _ (by decide +kernel)) ggX2_draw_X2_checkString
set_option maxRecDepth 20000 in
theorem ggX2_draw_X1_renew : GoodIn wsX2_draw wsX1_renew := goodIn_r _ [14, 15, 16, 17, 18, 31, 32, 33, 34, 35, 36, 37, 38] (by decide +kernel) (by decide +kernel)
set_option maxRecDepth 20000 in
theorem gX2_draw_X1_renew : GoodIn wsX2_draw (wsV RX2 69 RX1 yX1_renew wsX1_renew) := goodIn_app (goodIn_of _ (by decide +kernel)) ggX2_draw_X1_renew
set_option maxRecDepth 20000 in
theorem ggX2_draw_X1_toneOf : GoodIn wsX2_draw wsX1_toneOf := goodIn_r _ [22, 18, 23, 15, 16, 24, 31, 32, 33, 34, 35, 36, 37, 38] (by decide +kernel) (by decide +kernel)
set_option maxRecDepth 20000 in
theorem gX2_draw_X1_toneOf : GoodIn wsX2_draw (wsV RX2 63 RX1 yX1_toneOf wsX1_toneOf) := goodIn_app (goodIn_of _ (by decide +kernel)) ggX2_draw_X1_toneOf
theorem dX2_draw_0 : decode cX2_draw 0 = .ok (.iload_n 1, 1) := by decide +kernel
theorem dX2_draw_1 : decode cX2_draw 1 = .ok (.invokestatic 37, 3) := by decide +kernel
theorem dX2_draw_4 : decode cX2_draw 4 = .ok (.iload_n 2, 1) := by decide +kernel
theorem dX2_draw_5 : decode cX2_draw 5 = .ok (.bipush 100, 2) := by decide +kernel
theorem dX2_draw_7 : decode cX2_draw 7 = .ok (.if_icmp .lt 10, 3) := by decide +kernel
theorem dX2_draw_10 : decode cX2_draw 10 = .ok (.iload_n 2, 1) := by decide +kernel
theorem dX2_draw_11 : decode cX2_draw 11 = .ok (.sipush 900, 3) := by decide +kernel
theorem dX2_draw_14 : decode cX2_draw 14 = .ok (.if_icmp .le 13, 3) := by decide +kernel
theorem dX2_draw_17 : decode cX2_draw 17 = .ok (.new 44, 3) := by decide +kernel
theorem dX2_draw_20 : decode cX2_draw 20 = .ok (.dup, 1) := by decide +kernel
theorem dX2_draw_21 : decode cX2_draw 21 = .ok (.ldc 67, 2) := by decide +kernel
theorem dX2_draw_23 : decode cX2_draw 23 = .ok (.invokespecial 48, 3) := by decide +kernel
theorem dX2_draw_26 : decode cX2_draw 26 = .ok (.athrow, 1) := by decide +kernel
theorem dX2_draw_27 : decode cX2_draw 27 = .ok (.aload_n 0, 1) := by decide +kernel
theorem dX2_draw_28 : decode cX2_draw 28 = .ok (.getfield 10, 3) := by decide +kernel
theorem dX2_draw_31 : decode cX2_draw 31 = .ok (.iload_n 1, 1) := by decide +kernel
theorem dX2_draw_32 : decode cX2_draw 32 = .ok (.iload_n 2, 1) := by decide +kernel
theorem dX2_draw_33 : decode cX2_draw 33 = .ok (.invokevirtual 69, 3) := by decide +kernel
theorem dX2_draw_36 : decode cX2_draw 36 = .ok (.aload_n 0, 1) := by decide +kernel
theorem dX2_draw_37 : decode cX2_draw 37 = .ok (.getfield 10, 3) := by decide +kernel
theorem dX2_draw_40 : decode cX2_draw 40 = .ok (.iload_n 1, 1) := by decide +kernel
theorem dX2_draw_41 : decode cX2_draw 41 = .ok (.invokevirtual 63, 3) := by decide +kernel
theorem dX2_draw_44 : decode cX2_draw 44 = .ok (.ireturn, 1) := by decide +kernel
set_option maxRecDepth 20000 in
theorem ggX2_setWeather_X2_weatherAt : GoodIn wsX2_setWeather wsX2_weatherAt := goodIn_r _ [11, 5, 6, 12, 13, 14, 15, 16, 17] (by decide +kernel) (by decide +kernel)
set_option maxRecDepth 20000 in
theorem gX2_setWeather_X2_weatherAt : GoodIn wsX2_setWeather (wsV RX2 82 RX2 yX2_weatherAt wsX2_weatherAt) := goodIn_app (goodIn_of _ (by decide +kernel)) ggX2_setWeather_X2_weatherAt
theorem dX2_setWeather_0 : decode cX2_setWeather 0 = .ok (.iload_n 1, 1) := by decide +kernel
theorem dX2_setWeather_1 : decode cX2_setWeather 1 = .ok (.ifCond .lt 9, 3) := by decide +kernel
theorem dX2_setWeather_4 : decode cX2_setWeather 4 = .ok (.iload_n 1, 1) := by decide +kernel
theorem dX2_setWeather_5 : decode cX2_setWeather 5 = .ok (.bipush 12, 2) := by decide +kernel
theorem dX2_setWeather_7 : decode cX2_setWeather 7 = .ok (.if_icmp .lt 13, 3) := by decide +kernel
theorem dX2_setWeather_10 : decode cX2_setWeather 10 = .ok (.new 73, 3) := by decide +kernel
theorem dX2_setWeather_13 : decode cX2_setWeather 13 = .ok (.dup, 1) := by decide +kernel
theorem dX2_setWeather_14 : decode cX2_setWeather 14 = .ok (.ldc 75, 2) := by decide +kernel
theorem dX2_setWeather_16 : decode cX2_setWeather 16 = .ok (.invokespecial 77, 3) := by decide +kernel
theorem dX2_setWeather_19 : decode cX2_setWeather 19 = .ok (.athrow, 1) := by decide +kernel
theorem dX2_setWeather_20 : decode cX2_setWeather 20 = .ok (.iload_n 2, 1) := by decide +kernel
theorem dX2_setWeather_21 : decode cX2_setWeather 21 = .ok (.ifCond .lt 9, 3) := by decide +kernel
theorem dX2_setWeather_24 : decode cX2_setWeather 24 = .ok (.iload_n 2, 1) := by decide +kernel
theorem dX2_setWeather_25 : decode cX2_setWeather 25 = .ok (.bipush 20, 2) := by decide +kernel
theorem dX2_setWeather_27 : decode cX2_setWeather 27 = .ok (.if_icmp .le 13, 3) := by decide +kernel
theorem dX2_setWeather_30 : decode cX2_setWeather 30 = .ok (.new 44, 3) := by decide +kernel
theorem dX2_setWeather_33 : decode cX2_setWeather 33 = .ok (.dup, 1) := by decide +kernel
theorem dX2_setWeather_34 : decode cX2_setWeather 34 = .ok (.ldc 78, 2) := by decide +kernel
theorem dX2_setWeather_36 : decode cX2_setWeather 36 = .ok (.invokespecial 48, 3) := by decide +kernel
theorem dX2_setWeather_39 : decode cX2_setWeather 39 = .ok (.athrow, 1) := by decide +kernel
theorem dX2_setWeather_40 : decode cX2_setWeather 40 = .ok (.iload_n 3, 1) := by decide +kernel
theorem dX2_setWeather_41 : decode cX2_setWeather 41 = .ok (.ifCond .lt 9, 3) := by decide +kernel
theorem dX2_setWeather_44 : decode cX2_setWeather 44 = .ok (.iload_n 3, 1) := by decide +kernel
theorem dX2_setWeather_45 : decode cX2_setWeather 45 = .ok (.bipush 9, 2) := by decide +kernel
theorem dX2_setWeather_47 : decode cX2_setWeather 47 = .ok (.if_icmp .le 13, 3) := by decide +kernel
theorem dX2_setWeather_50 : decode cX2_setWeather 50 = .ok (.new 44, 3) := by decide +kernel
theorem dX2_setWeather_53 : decode cX2_setWeather 53 = .ok (.dup, 1) := by decide +kernel
theorem dX2_setWeather_54 : decode cX2_setWeather 54 = .ok (.ldc 80, 2) := by decide +kernel
theorem dX2_setWeather_56 : decode cX2_setWeather 56 = .ok (.invokespecial 48, 3) := by decide +kernel
theorem dX2_setWeather_59 : decode cX2_setWeather 59 = .ok (.athrow, 1) := by decide +kernel
theorem dX2_setWeather_60 : decode cX2_setWeather 60 = .ok (.aload_n 0, 1) := by decide +kernel
theorem dX2_setWeather_61 : decode cX2_setWeather 61 = .ok (.iload_n 1, 1) := by decide +kernel
theorem dX2_setWeather_62 : decode cX2_setWeather 62 = .ok (.invokevirtual 82, 3) := by decide +kernel
theorem dX2_setWeather_65 : decode cX2_setWeather 65 = .ok (.istore 4, 2) := by decide +kernel
theorem dX2_setWeather_67 : decode cX2_setWeather 67 = .ok (.aload_n 0, 1) := by decide +kernel
theorem dX2_setWeather_68 : decode cX2_setWeather 68 = .ok (.getfield 19, 3) := by decide +kernel
theorem dX2_setWeather_71 : decode cX2_setWeather 71 = .ok (.iload_n 1, 1) := by decide +kernel
theorem dX2_setWeather_72 : decode cX2_setWeather 72 = .ok (.iload_n 2, 1) := by decide +kernel
theorem dX2_setWeather_73 : decode cX2_setWeather 73 = .ok (.iastore, 1) := by decide +kernel
theorem dX2_setWeather_74 : decode cX2_setWeather 74 = .ok (.aload_n 0, 1) := by decide +kernel
theorem dX2_setWeather_75 : decode cX2_setWeather 75 = .ok (.getfield 23, 3) := by decide +kernel
theorem dX2_setWeather_78 : decode cX2_setWeather 78 = .ok (.iload_n 1, 1) := by decide +kernel
theorem dX2_setWeather_79 : decode cX2_setWeather 79 = .ok (.iload_n 3, 1) := by decide +kernel
theorem dX2_setWeather_80 : decode cX2_setWeather 80 = .ok (.iastore, 1) := by decide +kernel
theorem dX2_setWeather_81 : decode cX2_setWeather 81 = .ok (.iload 4, 2) := by decide +kernel
theorem dX2_setWeather_83 : decode cX2_setWeather 83 = .ok (.ireturn, 1) := by decide +kernel
set_option maxRecDepth 20000 in
theorem ggX2_string_X2_checkString : GoodIn wsX2_string wsX2_checkString := goodIn_ca (goodIn_r _ [7, 1, 2] (by decide +kernel) (by decide +kernel)) (goodIn_sub (fun _ h => List.mem_cons_of_mem _ (List.mem_append_right _ h)) (by decide +kernel))
set_option maxRecDepth 20000 in
theorem gX2_string_X2_checkString : GoodIn wsX2_string (va_wsS RX2 37 yX2_checkString wsX2_checkString) := goodIn_app (goodIn_of _ (by decide +kernel)) ggX2_string_X2_checkString
set_option maxRecDepth 20000 in
theorem ggX2_string_X1_factOf : GoodIn wsX2_string wsX1_factOf := goodIn_r _ [12, 13, 14, 15, 16, 17, 18, 19, 20, 21, 11, 22, 23, 30, 31, 32, 33, 34, 35, 36, 37] (by decide +kernel) (by decide +kernel)
set_option maxRecDepth 20000 in
theorem gX2_string_X1_factOf : GoodIn wsX2_string (wsV RX2 87 RX1 yX1_factOf wsX1_factOf) := goodIn_app (goodIn_of _ (by decide +kernel)) ggX2_string_X1_factOf
theorem dX2_string_0 : decode cX2_string 0 = .ok (.iload_n 1, 1) := by decide +kernel
theorem dX2_string_1 : decode cX2_string 1 = .ok (.invokestatic 37, 3) := by decide +kernel
theorem dX2_string_4 : decode cX2_string 4 = .ok (.iload_n 2, 1) := by decide +kernel
theorem dX2_string_5 : decode cX2_string 5 = .ok (.ifCond .lt 9, 3) := by decide +kernel
theorem dX2_string_8 : decode cX2_string 8 = .ok (.iload_n 2, 1) := by decide +kernel
theorem dX2_string_9 : decode cX2_string 9 = .ok (.bipush 7, 2) := by decide +kernel
theorem dX2_string_11 : decode cX2_string 11 = .ok (.if_icmp .lt 13, 3) := by decide +kernel
theorem dX2_string_14 : decode cX2_string 14 = .ok (.new 73, 3) := by decide +kernel
theorem dX2_string_17 : decode cX2_string 17 = .ok (.dup, 1) := by decide +kernel
theorem dX2_string_18 : decode cX2_string 18 = .ok (.ldc 85, 2) := by decide +kernel
theorem dX2_string_20 : decode cX2_string 20 = .ok (.invokespecial 77, 3) := by decide +kernel
theorem dX2_string_23 : decode cX2_string 23 = .ok (.athrow, 1) := by decide +kernel
theorem dX2_string_24 : decode cX2_string 24 = .ok (.aload_n 0, 1) := by decide +kernel
theorem dX2_string_25 : decode cX2_string 25 = .ok (.getfield 10, 3) := by decide +kernel
theorem dX2_string_28 : decode cX2_string 28 = .ok (.iload_n 1, 1) := by decide +kernel
theorem dX2_string_29 : decode cX2_string 29 = .ok (.iload_n 2, 1) := by decide +kernel
theorem dX2_string_30 : decode cX2_string 30 = .ok (.invokevirtual 87, 3) := by decide +kernel
theorem dX2_string_33 : decode cX2_string 33 = .ok (.ireturn, 1) := by decide +kernel
set_option maxRecDepth 20000 in
theorem ggX2_chord_X2_checkString : GoodIn wsX2_chord wsX2_checkString := goodIn_ca (goodIn_r _ [10, 11, 12] (by decide +kernel) (by decide +kernel)) (goodIn_sub (fun _ h => List.mem_cons_of_mem _ (List.mem_append_right _ h)) (by decide +kernel))
set_option maxRecDepth 20000 in
theorem gX2_chord_X2_checkString : GoodIn wsX2_chord (va_wsS RX2 37 yX2_checkString wsX2_checkString) := goodIn_app (goodIn_of _ (by decide +kernel)) ggX2_chord_X2_checkString
set_option maxRecDepth 20000 in
theorem ggX2_chord_X2_checkTone : GoodIn wsX2_chord wsX2_checkTone := goodIn_ca (goodIn_r _ [15, 1, 2] (by decide +kernel) (by decide +kernel)) (goodIn_sub (fun _ h => List.mem_cons_of_mem _ (List.mem_append_left _ (List.mem_append_left _ (List.mem_append_right _ h)))) (by decide +kernel))
set_option maxRecDepth 20000 in
theorem gX2_chord_X2_checkTone : GoodIn wsX2_chord (va_wsS RX2 100 yX2_checkTone wsX2_checkTone) := goodIn_app (goodIn_of _ (by decide +kernel)) ggX2_chord_X2_checkTone
set_option maxRecDepth 20000 in
theorem ggX2_chord_X0_place : GoodIn wsX2_chord wsX0_place := goodIn_r _ [20, 21, 22, 34, 35, 36] (by decide +kernel) (by decide +kernel)
set_option maxRecDepth 20000 in
theorem gX2_chord_X0_place : GoodIn wsX2_chord (wsV RX2 109 RX0 yX0_place wsX0_place) := goodIn_app (goodIn_of _ (by decide +kernel)) ggX2_chord_X0_place
set_option maxRecDepth 20000 in
theorem ggX2_chord_X0_tune : GoodIn wsX2_chord wsX0_tune := goodIn_r _ [26, 27, 34, 35, 36] (by decide +kernel) (by decide +kernel)
set_option maxRecDepth 20000 in
theorem gX2_chord_X0_tune : GoodIn wsX2_chord (wsV RX2 112 RX0 yX0_tune wsX0_tune) := goodIn_app (goodIn_of _ (by decide +kernel)) ggX2_chord_X0_tune
theorem dX2_chord_0 : decode cX2_chord 0 = .ok (.iload_n 1, 1) := by decide +kernel
theorem dX2_chord_1 : decode cX2_chord 1 = .ok (.invokestatic 37, 3) := by decide +kernel
theorem dX2_chord_4 : decode cX2_chord 4 = .ok (.iload_n 2, 1) := by decide +kernel
theorem dX2_chord_5 : decode cX2_chord 5 = .ok (.iconst 1, 1) := by decide +kernel
theorem dX2_chord_6 : decode cX2_chord 6 = .ok (.invokestatic 100, 3) := by decide +kernel
theorem dX2_chord_9 : decode cX2_chord 9 = .ok (.iload_n 3, 1) := by decide +kernel
theorem dX2_chord_10 : decode cX2_chord 10 = .ok (.iconst 1, 1) := by decide +kernel
theorem dX2_chord_11 : decode cX2_chord 11 = .ok (.invokestatic 100, 3) := by decide +kernel
theorem dX2_chord_14 : decode cX2_chord 14 = .ok (.iload 4, 2) := by decide +kernel
theorem dX2_chord_16 : decode cX2_chord 16 = .ok (.iconst 0, 1) := by decide +kernel
theorem dX2_chord_17 : decode cX2_chord 17 = .ok (.invokestatic 100, 3) := by decide +kernel
theorem dX2_chord_20 : decode cX2_chord 20 = .ok (.iload 5, 2) := by decide +kernel
theorem dX2_chord_22 : decode cX2_chord 22 = .ok (.iconst 0, 1) := by decide +kernel
theorem dX2_chord_23 : decode cX2_chord 23 = .ok (.invokestatic 100, 3) := by decide +kernel
theorem dX2_chord_26 : decode cX2_chord 26 = .ok (.iload 4, 2) := by decide +kernel
theorem dX2_chord_28 : decode cX2_chord 28 = .ok (.ifCond .ne 18, 3) := by decide +kernel
theorem dX2_chord_31 : decode cX2_chord 31 = .ok (.iload 5, 2) := by decide +kernel
theorem dX2_chord_33 : decode cX2_chord 33 = .ok (.ifCond .eq 13, 3) := by decide +kernel
theorem dX2_chord_36 : decode cX2_chord 36 = .ok (.new 44, 3) := by decide +kernel
theorem dX2_chord_39 : decode cX2_chord 39 = .ok (.dup, 1) := by decide +kernel
theorem dX2_chord_40 : decode cX2_chord 40 = .ok (.ldc 103, 2) := by decide +kernel
theorem dX2_chord_42 : decode cX2_chord 42 = .ok (.invokespecial 48, 3) := by decide +kernel
theorem dX2_chord_45 : decode cX2_chord 45 = .ok (.athrow, 1) := by decide +kernel
theorem dX2_chord_46 : decode cX2_chord 46 = .ok (.iload 4, 2) := by decide +kernel
theorem dX2_chord_48 : decode cX2_chord 48 = .ok (.ifCond .ne 7, 3) := by decide +kernel
theorem dX2_chord_51 : decode cX2_chord 51 = .ok (.iconst 2, 1) := by decide +kernel
theorem dX2_chord_52 : decode cX2_chord 52 = .ok (.goto 13, 3) := by decide +kernel
theorem dX2_chord_55 : decode cX2_chord 55 = .ok (.iload 5, 2) := by decide +kernel
theorem dX2_chord_57 : decode cX2_chord 57 = .ok (.ifCond .ne 7, 3) := by decide +kernel
theorem dX2_chord_60 : decode cX2_chord 60 = .ok (.iconst 3, 1) := by decide +kernel
theorem dX2_chord_61 : decode cX2_chord 61 = .ok (.goto 4, 3) := by decide +kernel
theorem dX2_chord_64 : decode cX2_chord 64 = .ok (.iconst 4, 1) := by decide +kernel
theorem dX2_chord_65 : decode cX2_chord 65 = .ok (.istore 6, 2) := by decide +kernel
theorem dX2_chord_67 : decode cX2_chord 67 = .ok (.iload_n 1, 1) := by decide +kernel
theorem dX2_chord_68 : decode cX2_chord 68 = .ok (.iload 6, 2) := by decide +kernel
theorem dX2_chord_70 : decode cX2_chord 70 = .ok (.iadd, 1) := by decide +kernel
theorem dX2_chord_71 : decode cX2_chord 71 = .ok (.bipush 12, 2) := by decide +kernel
theorem dX2_chord_73 : decode cX2_chord 73 = .ok (.if_icmp .le 13, 3) := by decide +kernel
theorem dX2_chord_76 : decode cX2_chord 76 = .ok (.new 44, 3) := by decide +kernel
theorem dX2_chord_79 : decode cX2_chord 79 = .ok (.dup, 1) := by decide +kernel
theorem dX2_chord_80 : decode cX2_chord 80 = .ok (.ldc 105, 2) := by decide +kernel
theorem dX2_chord_82 : decode cX2_chord 82 = .ok (.invokespecial 48, 3) := by decide +kernel
theorem dX2_chord_85 : decode cX2_chord 85 = .ok (.athrow, 1) := by decide +kernel
theorem dX2_chord_86 : decode cX2_chord 86 = .ok (.aload_n 0, 1) := by decide +kernel
theorem dX2_chord_87 : decode cX2_chord 87 = .ok (.getfield 33, 3) := by decide +kernel
theorem dX2_chord_90 : decode cX2_chord 90 = .ok (.bipush 6, 2) := by decide +kernel
theorem dX2_chord_92 : decode cX2_chord 92 = .ok (.if_icmp .lt 13, 3) := by decide +kernel
theorem dX2_chord_95 : decode cX2_chord 95 = .ok (.new 55, 3) := by decide +kernel
theorem dX2_chord_98 : decode cX2_chord 98 = .ok (.dup, 1) := by decide +kernel
theorem dX2_chord_99 : decode cX2_chord 99 = .ok (.ldc 107, 2) := by decide +kernel
theorem dX2_chord_101 : decode cX2_chord 101 = .ok (.invokespecial 59, 3) := by decide +kernel
theorem dX2_chord_104 : decode cX2_chord 104 = .ok (.athrow, 1) := by decide +kernel
theorem dX2_chord_105 : decode cX2_chord 105 = .ok (.aload_n 0, 1) := by decide +kernel
theorem dX2_chord_106 : decode cX2_chord 106 = .ok (.getfield 28, 3) := by decide +kernel
theorem dX2_chord_109 : decode cX2_chord 109 = .ok (.aload_n 0, 1) := by decide +kernel
theorem dX2_chord_110 : decode cX2_chord 110 = .ok (.getfield 33, 3) := by decide +kernel
theorem dX2_chord_113 : decode cX2_chord 113 = .ok (.aaload, 1) := by decide +kernel
theorem dX2_chord_114 : decode cX2_chord 114 = .ok (.astore 7, 2) := by decide +kernel
theorem dX2_chord_116 : decode cX2_chord 116 = .ok (.aload 7, 2) := by decide +kernel
theorem dX2_chord_118 : decode cX2_chord 118 = .ok (.iload_n 1, 1) := by decide +kernel
theorem dX2_chord_119 : decode cX2_chord 119 = .ok (.iload 6, 2) := by decide +kernel
theorem dX2_chord_121 : decode cX2_chord 121 = .ok (.invokevirtual 109, 3) := by decide +kernel
theorem dX2_chord_124 : decode cX2_chord 124 = .ok (.aload 7, 2) := by decide +kernel
theorem dX2_chord_126 : decode cX2_chord 126 = .ok (.iload_n 2, 1) := by decide +kernel
theorem dX2_chord_127 : decode cX2_chord 127 = .ok (.iload_n 3, 1) := by decide +kernel
theorem dX2_chord_128 : decode cX2_chord 128 = .ok (.iload 4, 2) := by decide +kernel
theorem dX2_chord_130 : decode cX2_chord 130 = .ok (.iload 5, 2) := by decide +kernel
theorem dX2_chord_132 : decode cX2_chord 132 = .ok (.invokevirtual 112, 3) := by decide +kernel
theorem dX2_chord_135 : decode cX2_chord 135 = .ok (.aload_n 0, 1) := by decide +kernel
theorem dX2_chord_136 : decode cX2_chord 136 = .ok (.dup, 1) := by decide +kernel
theorem dX2_chord_137 : decode cX2_chord 137 = .ok (.getfield 33, 3) := by decide +kernel
theorem dX2_chord_140 : decode cX2_chord 140 = .ok (.iconst 1, 1) := by decide +kernel
theorem dX2_chord_141 : decode cX2_chord 141 = .ok (.iadd, 1) := by decide +kernel
theorem dX2_chord_142 : decode cX2_chord 142 = .ok (.putfield 33, 3) := by decide +kernel
theorem dX2_chord_145 : decode cX2_chord 145 = .ok (.aload_n 0, 1) := by decide +kernel
theorem dX2_chord_146 : decode cX2_chord 146 = .ok (.getfield 33, 3) := by decide +kernel
theorem dX2_chord_149 : decode cX2_chord 149 = .ok (.iconst 1, 1) := by decide +kernel
theorem dX2_chord_150 : decode cX2_chord 150 = .ok (.isub, 1) := by decide +kernel
theorem dX2_chord_151 : decode cX2_chord 151 = .ok (.ireturn, 1) := by decide +kernel
set_option maxRecDepth 20000 in
theorem ggX2_off_X2_checkChord : GoodIn wsX2_off wsX2_checkChord := goodIn_ca (goodIn_r _ [7, 8, 9, 10, 32, 33, 34, 35, 36, 37] (by decide +kernel) (by decide +kernel)) (goodIn_sub (fun _ h => List.mem_cons_of_mem _ (List.mem_append_right _ h)) (by decide +kernel))
set_option maxRecDepth 20000 in
theorem gX2_off_X2_checkChord : GoodIn wsX2_off (wsV RX2 116 RX2 yX2_checkChord wsX2_checkChord) := goodIn_app (goodIn_of _ (by decide +kernel)) ggX2_off_X2_checkChord
set_option maxRecDepth 20000 in
theorem ggX2_off_X1_distanceFrom : GoodIn wsX2_off wsX1_distanceFrom := goodIn_r _ [15, 16, 17, 18, 19, 20, 21, 22, 23, 24, 25, 14, 26, 27, 28, 29, 30, 31, 38, 39, 40, 41, 42, 43, 44, 45, 46, 47, 48] (by decide +kernel) (by decide +kernel)
set_option maxRecDepth 20000 in
theorem gX2_off_X1_distanceFrom : GoodIn wsX2_off (wsV RX2 119 RX1 yX1_distanceFrom wsX1_distanceFrom) := goodIn_app (goodIn_of _ (by decide +kernel)) ggX2_off_X1_distanceFrom
theorem dX2_off_0 : decode cX2_off 0 = .ok (.aload_n 0, 1) := by decide +kernel
theorem dX2_off_1 : decode cX2_off 1 = .ok (.iload_n 1, 1) := by decide +kernel
theorem dX2_off_2 : decode cX2_off 2 = .ok (.invokevirtual 116, 3) := by decide +kernel
theorem dX2_off_5 : decode cX2_off 5 = .ok (.aload_n 0, 1) := by decide +kernel
theorem dX2_off_6 : decode cX2_off 6 = .ok (.getfield 10, 3) := by decide +kernel
theorem dX2_off_9 : decode cX2_off 9 = .ok (.aload_n 0, 1) := by decide +kernel
theorem dX2_off_10 : decode cX2_off 10 = .ok (.getfield 28, 3) := by decide +kernel
theorem dX2_off_13 : decode cX2_off 13 = .ok (.iload_n 1, 1) := by decide +kernel
theorem dX2_off_14 : decode cX2_off 14 = .ok (.aaload, 1) := by decide +kernel
theorem dX2_off_15 : decode cX2_off 15 = .ok (.invokevirtual 119, 3) := by decide +kernel
theorem dX2_off_18 : decode cX2_off 18 = .ok (.ireturn, 1) := by decide +kernel
set_option maxRecDepth 20000 in
theorem ggX2_sounds_X2_checkChord : GoodIn wsX2_sounds wsX2_checkChord := goodIn_ca (goodIn_r _ [7, 8, 9, 10, 36, 37, 38, 39, 40, 41] (by decide +kernel) (by decide +kernel)) (goodIn_sub (fun _ h => List.mem_cons_of_mem _ (List.mem_append_right _ h)) (by decide +kernel))
set_option maxRecDepth 20000 in
theorem gX2_sounds_X2_checkChord : GoodIn wsX2_sounds (wsV RX2 116 RX2 yX2_checkChord wsX2_checkChord) := goodIn_app (goodIn_of _ (by decide +kernel)) ggX2_sounds_X2_checkChord
set_option maxRecDepth 20000 in
theorem ggX2_sounds_X1_isTunedTo : GoodIn wsX2_sounds wsX1_isTunedTo := goodIn_r _ [15, 16, 17, 18, 19, 14, 20, 21, 22, 23, 24, 25, 26, 27, 28, 29, 30, 31, 32, 33, 34, 35, 42, 43, 44, 45, 46, 47, 48, 49, 50, 51, 52] (by decide +kernel) (by decide +kernel)
set_option maxRecDepth 20000 in
theorem gX2_sounds_X1_isTunedTo : GoodIn wsX2_sounds (wsV RX2 123 RX1 yX1_isTunedTo wsX1_isTunedTo) := goodIn_app (goodIn_of _ (by decide +kernel)) ggX2_sounds_X1_isTunedTo
theorem dX2_sounds_0 : decode cX2_sounds 0 = .ok (.aload_n 0, 1) := by decide +kernel
theorem dX2_sounds_1 : decode cX2_sounds 1 = .ok (.iload_n 1, 1) := by decide +kernel
theorem dX2_sounds_2 : decode cX2_sounds 2 = .ok (.invokevirtual 116, 3) := by decide +kernel
theorem dX2_sounds_5 : decode cX2_sounds 5 = .ok (.aload_n 0, 1) := by decide +kernel
theorem dX2_sounds_6 : decode cX2_sounds 6 = .ok (.getfield 10, 3) := by decide +kernel
theorem dX2_sounds_9 : decode cX2_sounds 9 = .ok (.aload_n 0, 1) := by decide +kernel
theorem dX2_sounds_10 : decode cX2_sounds 10 = .ok (.getfield 28, 3) := by decide +kernel
theorem dX2_sounds_13 : decode cX2_sounds 13 = .ok (.iload_n 1, 1) := by decide +kernel
theorem dX2_sounds_14 : decode cX2_sounds 14 = .ok (.aaload, 1) := by decide +kernel
theorem dX2_sounds_15 : decode cX2_sounds 15 = .ok (.invokevirtual 123, 3) := by decide +kernel
theorem dX2_sounds_18 : decode cX2_sounds 18 = .ok (.ireturn, 1) := by decide +kernel
set_option maxRecDepth 20000 in
theorem ggX2_steps_X2_checkChord : GoodIn wsX2_steps wsX2_checkChord := goodIn_ca (goodIn_r _ [7, 8, 9, 10, 44, 45, 46, 47, 48, 49] (by decide +kernel) (by decide +kernel)) (goodIn_sub (fun _ h => List.mem_cons_of_mem _ (List.mem_append_right _ h)) (by decide +kernel))
set_option maxRecDepth 20000 in
theorem gX2_steps_X2_checkChord : GoodIn wsX2_steps (wsV RX2 116 RX2 yX2_checkChord wsX2_checkChord) := goodIn_app (goodIn_of _ (by decide +kernel)) ggX2_steps_X2_checkChord
set_option maxRecDepth 20000 in
theorem ggX2_steps_X2_fewestSteps : GoodIn wsX2_steps wsX2_fewestSteps := goodIn_r _ [13, 14, 15, 16, 17, 18, 19, 20, 21, 22, 23, 24, 25, 26, 27, 28, 29, 30, 31, 32, 33, 34, 35, 36, 37, 38, 39, 40, 41, 42, 43, 11, 12, 6, 50, 51, 52, 53, 54, 55, 56, 57, 58, 59, 60] (by decide +kernel) (by decide +kernel)
set_option maxRecDepth 20000 in
theorem gX2_steps_X2_fewestSteps : GoodIn wsX2_steps (va_wsS RX2 127 yX2_fewestSteps wsX2_fewestSteps) := goodIn_app (goodIn_of _ (by decide +kernel)) ggX2_steps_X2_fewestSteps
theorem dX2_steps_0 : decode cX2_steps 0 = .ok (.aload_n 0, 1) := by decide +kernel
theorem dX2_steps_1 : decode cX2_steps 1 = .ok (.iload_n 1, 1) := by decide +kernel
theorem dX2_steps_2 : decode cX2_steps 2 = .ok (.invokevirtual 116, 3) := by decide +kernel
theorem dX2_steps_5 : decode cX2_steps 5 = .ok (.aload_n 0, 1) := by decide +kernel
theorem dX2_steps_6 : decode cX2_steps 6 = .ok (.getfield 10, 3) := by decide +kernel
theorem dX2_steps_9 : decode cX2_steps 9 = .ok (.aload_n 0, 1) := by decide +kernel
theorem dX2_steps_10 : decode cX2_steps 10 = .ok (.getfield 28, 3) := by decide +kernel
theorem dX2_steps_13 : decode cX2_steps 13 = .ok (.iload_n 1, 1) := by decide +kernel
theorem dX2_steps_14 : decode cX2_steps 14 = .ok (.aaload, 1) := by decide +kernel
theorem dX2_steps_15 : decode cX2_steps 15 = .ok (.iconst 0, 1) := by decide +kernel
theorem dX2_steps_16 : decode cX2_steps 16 = .ok (.iconst 0, 1) := by decide +kernel
theorem dX2_steps_17 : decode cX2_steps 17 = .ok (.iconst 0, 1) := by decide +kernel
theorem dX2_steps_18 : decode cX2_steps 18 = .ok (.invokestatic 127, 3) := by decide +kernel
theorem dX2_steps_21 : decode cX2_steps 21 = .ok (.istore_n 2, 1) := by decide +kernel
theorem dX2_steps_22 : decode cX2_steps 22 = .ok (.iload_n 2, 1) := by decide +kernel
theorem dX2_steps_23 : decode cX2_steps 23 = .ok (.sipush 1000, 3) := by decide +kernel
theorem dX2_steps_26 : decode cX2_steps 26 = .ok (.if_icmp .ge 7, 3) := by decide +kernel
theorem dX2_steps_29 : decode cX2_steps 29 = .ok (.iload_n 2, 1) := by decide +kernel
theorem dX2_steps_30 : decode cX2_steps 30 = .ok (.goto 4, 3) := by decide +kernel
theorem dX2_steps_33 : decode cX2_steps 33 = .ok (.iconst (-1), 1) := by decide +kernel
theorem dX2_steps_34 : decode cX2_steps 34 = .ok (.ireturn, 1) := by decide +kernel
set_option maxRecDepth 20000 in
theorem ggX2_pass_X2_checkHours : GoodIn wsX2_pass wsX2_checkHours := goodIn_ca (goodIn_r _ [5, 6, 7] (by decide +kernel) (by decide +kernel)) (goodIn_sub (fun _ h => List.mem_cons_of_mem _ (List.mem_append_right _ h)) (by decide +kernel))
set_option maxRecDepth 20000 in
theorem gX2_pass_X2_checkHours : GoodIn wsX2_pass (va_wsS RX2 131 yX2_checkHours wsX2_checkHours) := goodIn_app (goodIn_of _ (by decide +kernel)) ggX2_pass_X2_checkHours
set_option maxRecDepth 20000 in
theorem ggX2_pass_X2_letHourGo : GoodIn wsX2_pass wsX2_letHourGo := goodIn_r _ [11, 12, 13, 14, 15, 16, 17, 18, 19, 20, 21, 22, 23, 24, 25, 26, 27, 28, 29, 30, 31, 32, 33, 34, 35, 36, 37, 38, 39, 40, 41, 42, 43, 44, 45, 46, 47, 48, 49, 50, 51, 52, 53, 54, 55, 56, 57, 58, 59, 60, 61, 62, 63, 64, 65, 66, 67, 68, 69, 70, 71] (by decide +kernel) (by decide +kernel)
set_option maxRecDepth 20000 in
theorem gX2_pass_X2_letHourGo : GoodIn wsX2_pass (wsV RX2 134 RX2 yX2_letHourGo wsX2_letHourGo) := goodIn_app (goodIn_of _ (by decide +kernel)) ggX2_pass_X2_letHourGo
theorem dX2_pass_0 : decode cX2_pass 0 = .ok (.iload_n 1, 1) := by decide +kernel
theorem dX2_pass_1 : decode cX2_pass 1 = .ok (.invokestatic 131, 3) := by decide +kernel
theorem dX2_pass_4 : decode cX2_pass 4 = .ok (.iconst 0, 1) := by decide +kernel
theorem dX2_pass_5 : decode cX2_pass 5 = .ok (.istore_n 2, 1) := by decide +kernel
theorem dX2_pass_6 : decode cX2_pass 6 = .ok (.iconst 0, 1) := by decide +kernel
theorem dX2_pass_7 : decode cX2_pass 7 = .ok (.istore_n 3, 1) := by decide +kernel
theorem dX2_pass_8 : decode cX2_pass 8 = .ok (.iload_n 3, 1) := by decide +kernel
theorem dX2_pass_9 : decode cX2_pass 9 = .ok (.iload_n 1, 1) := by decide +kernel
theorem dX2_pass_10 : decode cX2_pass 10 = .ok (.if_icmp .ge 23, 3) := by decide +kernel
theorem dX2_pass_13 : decode cX2_pass 13 = .ok (.iload_n 2, 1) := by decide +kernel
theorem dX2_pass_14 : decode cX2_pass 14 = .ok (.aload_n 0, 1) := by decide +kernel
theorem dX2_pass_15 : decode cX2_pass 15 = .ok (.aload_n 0, 1) := by decide +kernel
theorem dX2_pass_16 : decode cX2_pass 16 = .ok (.getfield 10, 3) := by decide +kernel
theorem dX2_pass_19 : decode cX2_pass 19 = .ok (.iconst 0, 1) := by decide +kernel
theorem dX2_pass_20 : decode cX2_pass 20 = .ok (.bipush 12, 2) := by decide +kernel
theorem dX2_pass_22 : decode cX2_pass 22 = .ok (.invokevirtual 134, 3) := by decide +kernel
theorem dX2_pass_25 : decode cX2_pass 25 = .ok (.iadd, 1) := by decide +kernel
theorem dX2_pass_26 : decode cX2_pass 26 = .ok (.istore_n 2, 1) := by decide +kernel
theorem dX2_pass_27 : decode cX2_pass 27 = .ok (.iinc 3 1, 3) := by decide +kernel
theorem dX2_pass_30 : decode cX2_pass 30 = .ok (.goto (-22), 3) := by decide +kernel
theorem dX2_pass_33 : decode cX2_pass 33 = .ok (.iload_n 2, 1) := by decide +kernel
theorem dX2_pass_34 : decode cX2_pass 34 = .ok (.ireturn, 1) := by decide +kernel
set_option maxRecDepth 20000 in
theorem ggX2_count_X2_countOf : GoodIn wsX2_count wsX2_countOf := goodIn_r _ [7, 8, 9, 10, 11, 12, 13, 14, 15, 16, 17, 18, 19, 20, 21, 22, 23, 6, 24, 25, 26, 27, 28, 29, 30, 31, 32, 33, 34, 35, 36, 37, 38, 39, 40, 41, 42, 43, 44, 45, 46, 47, 48, 49, 50, 51, 52, 53, 54, 55, 56, 57, 58, 59, 60, 61, 62, 63, 64, 65, 66, 67, 68] (by decide +kernel) (by decide +kernel)
set_option maxRecDepth 20000 in
theorem gX2_count_X2_countOf : GoodIn wsX2_count (wsV RX2 140 RX2 yX2_countOf wsX2_countOf) := goodIn_app (goodIn_of _ (by decide +kernel)) ggX2_count_X2_countOf
theorem dX2_count_0 : decode cX2_count 0 = .ok (.iload_n 1, 1) := by decide +kernel
theorem dX2_count_1 : decode cX2_count 1 = .ok (.ifCond .lt 9, 3) := by decide +kernel
theorem dX2_count_4 : decode cX2_count 4 = .ok (.iload_n 1, 1) := by decide +kernel
theorem dX2_count_5 : decode cX2_count 5 = .ok (.bipush 8, 2) := by decide +kernel
theorem dX2_count_7 : decode cX2_count 7 = .ok (.if_icmp .lt 13, 3) := by decide +kernel
theorem dX2_count_10 : decode cX2_count 10 = .ok (.new 73, 3) := by decide +kernel
theorem dX2_count_13 : decode cX2_count 13 = .ok (.dup, 1) := by decide +kernel
theorem dX2_count_14 : decode cX2_count 14 = .ok (.ldc 138, 2) := by decide +kernel
theorem dX2_count_16 : decode cX2_count 16 = .ok (.invokespecial 77, 3) := by decide +kernel
theorem dX2_count_19 : decode cX2_count 19 = .ok (.athrow, 1) := by decide +kernel
theorem dX2_count_20 : decode cX2_count 20 = .ok (.aload_n 0, 1) := by decide +kernel
theorem dX2_count_21 : decode cX2_count 21 = .ok (.iload_n 1, 1) := by decide +kernel
theorem dX2_count_22 : decode cX2_count 22 = .ok (.invokevirtual 140, 3) := by decide +kernel
theorem dX2_count_25 : decode cX2_count 25 = .ok (.ireturn, 1) := by decide +kernel
set_option maxRecDepth 20000 in
theorem ggX2_first_X1_copy : GoodIn wsX2_first wsX1_copy := goodIn_r _ [7, 8, 9, 10, 11, 12, 13, 14, 15, 69, 70, 71, 72, 73, 74, 75, 76] (by decide +kernel) (by decide +kernel)
set_option maxRecDepth 20000 in
theorem gX2_first_X1_copy : GoodIn wsX2_first (wsV RX2 146 RX1 yX1_copy wsX1_copy) := goodIn_app (goodIn_of _ (by decide +kernel)) ggX2_first_X1_copy
set_option maxRecDepth 20000 in
theorem ggX2_first_X2_letHourGo : GoodIn wsX2_first wsX2_letHourGo := goodIn_r _ [20, 21, 22, 23, 24, 25, 6, 26, 15, 27, 28, 29, 30, 31, 32, 33, 34, 13, 35, 36, 37, 38, 11, 39, 40, 41, 42, 10, 12, 43, 44, 45, 46, 9, 8, 14, 47, 48, 49, 50, 51, 52, 53, 54, 55, 56, 57, 63, 64, 65, 66, 67, 68, 69, 70, 71, 72, 73, 74, 75, 76] (by decide +kernel) (by decide +kernel)
set_option maxRecDepth 20000 in
theorem gX2_first_X2_letHourGo : GoodIn wsX2_first (wsV RX2 134 RX2 yX2_letHourGo wsX2_letHourGo) := goodIn_app (goodIn_of _ (by decide +kernel)) ggX2_first_X2_letHourGo
set_option maxRecDepth 20000 in
theorem ggX2_first_X2_lowestToBreak : GoodIn wsX2_first wsX2_lowestToBreak := goodIn_r _ [61, 2, 62, 1, 63, 64, 65, 66, 67, 68, 69, 70, 71, 72, 73, 74, 75, 76] (by decide +kernel) (by decide +kernel)
set_option maxRecDepth 20000 in
theorem gX2_first_X2_lowestToBreak : GoodIn wsX2_first (wsV RX2 150 RX2 yX2_lowestToBreak wsX2_lowestToBreak) := goodIn_app (goodIn_of _ (by decide +kernel)) ggX2_first_X2_lowestToBreak
theorem dX2_first_0 : decode cX2_first 0 = .ok (.aload_n 0, 1) := by decide +kernel
theorem dX2_first_1 : decode cX2_first 1 = .ok (.getfield 16, 3) := by decide +kernel
theorem dX2_first_4 : decode cX2_first 4 = .ok (.aload_n 0, 1) := by decide +kernel
theorem dX2_first_5 : decode cX2_first 5 = .ok (.getfield 10, 3) := by decide +kernel
theorem dX2_first_8 : decode cX2_first 8 = .ok (.invokevirtual 146, 3) := by decide +kernel
theorem dX2_first_11 : decode cX2_first 11 = .ok (.iconst 0, 1) := by decide +kernel
theorem dX2_first_12 : decode cX2_first 12 = .ok (.istore_n 1, 1) := by decide +kernel
theorem dX2_first_13 : decode cX2_first 13 = .ok (.iload_n 1, 1) := by decide +kernel
theorem dX2_first_14 : decode cX2_first 14 = .ok (.sipush 200, 3) := by decide +kernel
theorem dX2_first_17 : decode cX2_first 17 = .ok (.if_icmp .ge 28, 3) := by decide +kernel
theorem dX2_first_20 : decode cX2_first 20 = .ok (.aload_n 0, 1) := by decide +kernel
theorem dX2_first_21 : decode cX2_first 21 = .ok (.aload_n 0, 1) := by decide +kernel
theorem dX2_first_22 : decode cX2_first 22 = .ok (.getfield 16, 3) := by decide +kernel
theorem dX2_first_25 : decode cX2_first 25 = .ok (.iconst 0, 1) := by decide +kernel
theorem dX2_first_26 : decode cX2_first 26 = .ok (.bipush 12, 2) := by decide +kernel
theorem dX2_first_28 : decode cX2_first 28 = .ok (.invokevirtual 134, 3) := by decide +kernel
theorem dX2_first_31 : decode cX2_first 31 = .ok (.ifCond .le 8, 3) := by decide +kernel
theorem dX2_first_34 : decode cX2_first 34 = .ok (.aload_n 0, 1) := by decide +kernel
theorem dX2_first_35 : decode cX2_first 35 = .ok (.invokevirtual 150, 3) := by decide +kernel
theorem dX2_first_38 : decode cX2_first 38 = .ok (.ireturn, 1) := by decide +kernel
theorem dX2_first_39 : decode cX2_first 39 = .ok (.iinc 1 1, 3) := by decide +kernel
theorem dX2_first_42 : decode cX2_first 42 = .ok (.goto (-29), 3) := by decide +kernel
theorem dX2_first_45 : decode cX2_first 45 = .ok (.iconst (-1), 1) := by decide +kernel
theorem dX2_first_46 : decode cX2_first 46 = .ok (.ireturn, 1) := by decide +kernel
set_option maxRecDepth 20000 in
theorem ggX2_holds_X2_checkChord : GoodIn wsX2_holds wsX2_checkChord := goodIn_ca (goodIn_r _ [10, 11, 12, 13, 82, 83, 84, 85, 86, 87] (by decide +kernel) (by decide +kernel)) (goodIn_sub (fun _ h => List.mem_cons_of_mem _ (List.mem_append_right _ h)) (by decide +kernel))
set_option maxRecDepth 20000 in
theorem gX2_holds_X2_checkChord : GoodIn wsX2_holds (wsV RX2 116 RX2 yX2_checkChord wsX2_checkChord) := goodIn_app (goodIn_of _ (by decide +kernel)) ggX2_holds_X2_checkChord
set_option maxRecDepth 20000 in
theorem ggX2_holds_X1_copy : GoodIn wsX2_holds wsX1_copy := goodIn_r _ [18, 19, 20, 21, 22, 23, 24, 25, 26, 91, 92, 93, 94, 95, 96, 97, 98] (by decide +kernel) (by decide +kernel)
set_option maxRecDepth 20000 in
theorem gX2_holds_X1_copy : GoodIn wsX2_holds (wsV RX2 146 RX1 yX1_copy wsX1_copy) := goodIn_app (goodIn_of _ (by decide +kernel)) ggX2_holds_X1_copy
set_option maxRecDepth 20000 in
theorem ggX2_holds_X1_isTunedTo : GoodIn wsX2_holds wsX1_isTunedTo := goodIn_r _ [30, 31, 32, 33, 34, 17, 35, 36, 24, 37, 38, 39, 40, 41, 42, 43, 44, 45, 20, 19, 21, 25, 88, 89, 90, 91, 92, 93, 94, 95, 96, 97, 98] (by decide +kernel) (by decide +kernel)
set_option maxRecDepth 20000 in
theorem gX2_holds_X1_isTunedTo : GoodIn wsX2_holds (wsV RX2 123 RX1 yX1_isTunedTo wsX1_isTunedTo) := goodIn_app (goodIn_of _ (by decide +kernel)) ggX2_holds_X1_isTunedTo
set_option maxRecDepth 20000 in
theorem ggX2_holds_X2_letHourGo : GoodIn wsX2_holds wsX2_letHourGo := goodIn_r _ [49, 50, 51, 52, 53, 54, 17, 55, 26, 56, 57, 58, 59, 60, 61, 62, 63, 24, 64, 65, 66, 67, 22, 68, 69, 40, 70, 21, 23, 42, 43, 44, 45, 20, 19, 25, 71, 72, 73, 74, 75, 76, 77, 78, 79, 80, 81, 82, 83, 84, 85, 86, 87, 91, 92, 93, 94, 95, 96, 97, 98] (by decide +kernel) (by decide +kernel)
set_option maxRecDepth 20000 in
theorem gX2_holds_X2_letHourGo : GoodIn wsX2_holds (wsV RX2 134 RX2 yX2_letHourGo wsX2_letHourGo) := goodIn_app (goodIn_of _ (by decide +kernel)) ggX2_holds_X2_letHourGo
theorem dX2_holds_0 : decode cX2_holds 0 = .ok (.aload_n 0, 1) := by decide +kernel
theorem dX2_holds_1 : decode cX2_holds 1 = .ok (.iload_n 1, 1) := by decide +kernel
theorem dX2_holds_2 : decode cX2_holds 2 = .ok (.invokevirtual 116, 3) := by decide +kernel
theorem dX2_holds_5 : decode cX2_holds 5 = .ok (.aload_n 0, 1) := by decide +kernel
theorem dX2_holds_6 : decode cX2_holds 6 = .ok (.getfield 28, 3) := by decide +kernel
theorem dX2_holds_9 : decode cX2_holds 9 = .ok (.iload_n 1, 1) := by decide +kernel
theorem dX2_holds_10 : decode cX2_holds 10 = .ok (.aaload, 1) := by decide +kernel
theorem dX2_holds_11 : decode cX2_holds 11 = .ok (.astore_n 2, 1) := by decide +kernel
theorem dX2_holds_12 : decode cX2_holds 12 = .ok (.aload_n 0, 1) := by decide +kernel
theorem dX2_holds_13 : decode cX2_holds 13 = .ok (.getfield 16, 3) := by decide +kernel
theorem dX2_holds_16 : decode cX2_holds 16 = .ok (.aload_n 0, 1) := by decide +kernel
theorem dX2_holds_17 : decode cX2_holds 17 = .ok (.getfield 10, 3) := by decide +kernel
theorem dX2_holds_20 : decode cX2_holds 20 = .ok (.invokevirtual 146, 3) := by decide +kernel
theorem dX2_holds_23 : decode cX2_holds 23 = .ok (.iconst 0, 1) := by decide +kernel
theorem dX2_holds_24 : decode cX2_holds 24 = .ok (.istore_n 3, 1) := by decide +kernel
theorem dX2_holds_25 : decode cX2_holds 25 = .ok (.iload_n 3, 1) := by decide +kernel
theorem dX2_holds_26 : decode cX2_holds 26 = .ok (.sipush 200, 3) := by decide +kernel
theorem dX2_holds_29 : decode cX2_holds 29 = .ok (.if_icmp .gt 44, 3) := by decide +kernel
theorem dX2_holds_32 : decode cX2_holds 32 = .ok (.aload_n 0, 1) := by decide +kernel
theorem dX2_holds_33 : decode cX2_holds 33 = .ok (.getfield 16, 3) := by decide +kernel
theorem dX2_holds_36 : decode cX2_holds 36 = .ok (.aload_n 2, 1) := by decide +kernel
theorem dX2_holds_37 : decode cX2_holds 37 = .ok (.invokevirtual 123, 3) := by decide +kernel
theorem dX2_holds_40 : decode cX2_holds 40 = .ok (.ifCond .ne 5, 3) := by decide +kernel
theorem dX2_holds_43 : decode cX2_holds 43 = .ok (.iload_n 3, 1) := by decide +kernel
theorem dX2_holds_44 : decode cX2_holds 44 = .ok (.ireturn, 1) := by decide +kernel
theorem dX2_holds_45 : decode cX2_holds 45 = .ok (.aload_n 0, 1) := by decide +kernel
theorem dX2_holds_46 : decode cX2_holds 46 = .ok (.aload_n 0, 1) := by decide +kernel
theorem dX2_holds_47 : decode cX2_holds 47 = .ok (.getfield 16, 3) := by decide +kernel
theorem dX2_holds_50 : decode cX2_holds 50 = .ok (.aload_n 2, 1) := by decide +kernel
theorem dX2_holds_51 : decode cX2_holds 51 = .ok (.getfield 154, 3) := by decide +kernel
theorem dX2_holds_54 : decode cX2_holds 54 = .ok (.aload_n 2, 1) := by decide +kernel
theorem dX2_holds_55 : decode cX2_holds 55 = .ok (.getfield 154, 3) := by decide +kernel
theorem dX2_holds_58 : decode cX2_holds 58 = .ok (.aload_n 2, 1) := by decide +kernel
theorem dX2_holds_59 : decode cX2_holds 59 = .ok (.getfield 157, 3) := by decide +kernel
theorem dX2_holds_62 : decode cX2_holds 62 = .ok (.iadd, 1) := by decide +kernel
theorem dX2_holds_63 : decode cX2_holds 63 = .ok (.invokevirtual 134, 3) := by decide +kernel
theorem dX2_holds_66 : decode cX2_holds 66 = .ok (.pop, 1) := by decide +kernel
theorem dX2_holds_67 : decode cX2_holds 67 = .ok (.iinc 3 1, 3) := by decide +kernel
theorem dX2_holds_70 : decode cX2_holds 70 = .ok (.goto (-45), 3) := by decide +kernel
theorem dX2_holds_73 : decode cX2_holds 73 = .ok (.iconst (-1), 1) := by decide +kernel
theorem dX2_holds_74 : decode cX2_holds 74 = .ok (.ireturn, 1) := by decide +kernel
set_option maxRecDepth 20000 in
theorem ggX2_foresee_X2_checkHours : GoodIn wsX2_foresee wsX2_checkHours := goodIn_ca (goodIn_r _ [6, 7, 8] (by decide +kernel) (by decide +kernel)) (goodIn_sub (fun _ h => List.mem_cons_of_mem _ (List.mem_append_left _ (List.mem_append_right _ h))) (by decide +kernel))
set_option maxRecDepth 20000 in
theorem gX2_foresee_X2_checkHours : GoodIn wsX2_foresee (va_wsS RX2 131 yX2_checkHours wsX2_checkHours) := goodIn_app (goodIn_of _ (by decide +kernel)) ggX2_foresee_X2_checkHours
set_option maxRecDepth 20000 in
theorem ggX2_foresee_X2_checkString : GoodIn wsX2_foresee wsX2_checkString := goodIn_ca (goodIn_r _ [11, 12, 13] (by decide +kernel) (by decide +kernel)) (goodIn_sub (fun _ h => List.mem_cons_of_mem _ (List.mem_append_right _ h)) (by decide +kernel))
set_option maxRecDepth 20000 in
theorem gX2_foresee_X2_checkString : GoodIn wsX2_foresee (va_wsS RX2 37 yX2_checkString wsX2_checkString) := goodIn_app (goodIn_of _ (by decide +kernel)) ggX2_foresee_X2_checkString
set_option maxRecDepth 20000 in
theorem ggX2_foresee_X1_copy : GoodIn wsX2_foresee wsX1_copy := goodIn_r _ [18, 19, 20, 21, 22, 23, 24, 25, 26, 75, 76, 77, 78, 79, 80, 81, 82] (by decide +kernel) (by decide +kernel)
set_option maxRecDepth 20000 in
theorem gX2_foresee_X1_copy : GoodIn wsX2_foresee (wsV RX2 146 RX1 yX1_copy wsX1_copy) := goodIn_app (goodIn_of _ (by decide +kernel)) ggX2_foresee_X1_copy
set_option maxRecDepth 20000 in
theorem ggX2_foresee_X2_letHourGo : GoodIn wsX2_foresee wsX2_letHourGo := goodIn_r _ [30, 31, 32, 33, 34, 35, 17, 36, 26, 37, 38, 39, 40, 41, 42, 43, 44, 24, 45, 46, 47, 48, 22, 49, 50, 51, 52, 21, 23, 53, 54, 55, 56, 20, 19, 25, 57, 58, 59, 60, 61, 62, 63, 64, 65, 66, 67, 69, 70, 71, 72, 73, 74, 75, 76, 77, 78, 79, 80, 81, 82] (by decide +kernel) (by decide +kernel)
set_option maxRecDepth 20000 in
theorem gX2_foresee_X2_letHourGo : GoodIn wsX2_foresee (wsV RX2 134 RX2 yX2_letHourGo wsX2_letHourGo) := goodIn_app (goodIn_of _ (by decide +kernel)) ggX2_foresee_X2_letHourGo
set_option maxRecDepth 20000 in
theorem ggX2_foresee_X1_toneOf : GoodIn wsX2_foresee wsX1_toneOf := goodIn_r _ [56, 24, 20, 19, 21, 25, 75, 76, 77, 78, 79, 80, 81, 82] (by decide +kernel) (by decide +kernel)
set_option maxRecDepth 20000 in
theorem gX2_foresee_X1_toneOf : GoodIn wsX2_foresee (wsV RX2 63 RX1 yX1_toneOf wsX1_toneOf) := goodIn_app (goodIn_of _ (by decide +kernel)) ggX2_foresee_X1_toneOf
theorem dX2_foresee_0 : decode cX2_foresee 0 = .ok (.iload_n 1, 1) := by decide +kernel
theorem dX2_foresee_1 : decode cX2_foresee 1 = .ok (.invokestatic 131, 3) := by decide +kernel
theorem dX2_foresee_4 : decode cX2_foresee 4 = .ok (.iload_n 2, 1) := by decide +kernel
theorem dX2_foresee_5 : decode cX2_foresee 5 = .ok (.invokestatic 37, 3) := by decide +kernel
theorem dX2_foresee_8 : decode cX2_foresee 8 = .ok (.aload_n 0, 1) := by decide +kernel
theorem dX2_foresee_9 : decode cX2_foresee 9 = .ok (.getfield 16, 3) := by decide +kernel
theorem dX2_foresee_12 : decode cX2_foresee 12 = .ok (.aload_n 0, 1) := by decide +kernel
theorem dX2_foresee_13 : decode cX2_foresee 13 = .ok (.getfield 10, 3) := by decide +kernel
theorem dX2_foresee_16 : decode cX2_foresee 16 = .ok (.invokevirtual 146, 3) := by decide +kernel
theorem dX2_foresee_19 : decode cX2_foresee 19 = .ok (.iconst 0, 1) := by decide +kernel
theorem dX2_foresee_20 : decode cX2_foresee 20 = .ok (.istore_n 3, 1) := by decide +kernel
theorem dX2_foresee_21 : decode cX2_foresee 21 = .ok (.iload_n 3, 1) := by decide +kernel
theorem dX2_foresee_22 : decode cX2_foresee 22 = .ok (.iload_n 1, 1) := by decide +kernel
theorem dX2_foresee_23 : decode cX2_foresee 23 = .ok (.if_icmp .ge 22, 3) := by decide +kernel
theorem dX2_foresee_26 : decode cX2_foresee 26 = .ok (.aload_n 0, 1) := by decide +kernel
theorem dX2_foresee_27 : decode cX2_foresee 27 = .ok (.aload_n 0, 1) := by decide +kernel
theorem dX2_foresee_28 : decode cX2_foresee 28 = .ok (.getfield 16, 3) := by decide +kernel
theorem dX2_foresee_31 : decode cX2_foresee 31 = .ok (.iload_n 2, 1) := by decide +kernel
theorem dX2_foresee_32 : decode cX2_foresee 32 = .ok (.iload_n 2, 1) := by decide +kernel
theorem dX2_foresee_33 : decode cX2_foresee 33 = .ok (.iconst 1, 1) := by decide +kernel
theorem dX2_foresee_34 : decode cX2_foresee 34 = .ok (.iadd, 1) := by decide +kernel
theorem dX2_foresee_35 : decode cX2_foresee 35 = .ok (.invokevirtual 134, 3) := by decide +kernel
theorem dX2_foresee_38 : decode cX2_foresee 38 = .ok (.pop, 1) := by decide +kernel
theorem dX2_foresee_39 : decode cX2_foresee 39 = .ok (.iinc 3 1, 3) := by decide +kernel
theorem dX2_foresee_42 : decode cX2_foresee 42 = .ok (.goto (-21), 3) := by decide +kernel
theorem dX2_foresee_45 : decode cX2_foresee 45 = .ok (.aload_n 0, 1) := by decide +kernel
theorem dX2_foresee_46 : decode cX2_foresee 46 = .ok (.getfield 16, 3) := by decide +kernel
theorem dX2_foresee_49 : decode cX2_foresee 49 = .ok (.iload_n 2, 1) := by decide +kernel
theorem dX2_foresee_50 : decode cX2_foresee 50 = .ok (.invokevirtual 63, 3) := by decide +kernel
theorem dX2_foresee_53 : decode cX2_foresee 53 = .ok (.ireturn, 1) := by decide +kernel
set_option maxRecDepth 20000 in
theorem ggX2_mean_X1_wholeStrings : GoodIn wsX2_mean wsX1_wholeStrings := goodIn_r _ [6, 7, 26, 27, 28, 29, 30, 31, 32, 33] (by decide +kernel) (by decide +kernel)
set_option maxRecDepth 20000 in
theorem gX2_mean_X1_wholeStrings : GoodIn wsX2_mean (wsV RX2 160 RX1 yX1_wholeStrings wsX1_wholeStrings) := goodIn_app (goodIn_of _ (by decide +kernel)) ggX2_mean_X1_wholeStrings
set_option maxRecDepth 20000 in
theorem ggX2_mean_X1_sumOfTones : GoodIn wsX2_mean wsX1_sumOfTones := goodIn_r _ [11, 12, 13, 14, 5, 15, 7, 16, 17, 18, 19, 26, 27, 28, 29, 30, 31, 32, 33] (by decide +kernel) (by decide +kernel)
set_option maxRecDepth 20000 in
theorem gX2_mean_X1_sumOfTones : GoodIn wsX2_mean (wsV RX2 163 RX1 yX1_sumOfTones wsX1_sumOfTones) := goodIn_app (goodIn_of _ (by decide +kernel)) ggX2_mean_X1_sumOfTones
theorem dX2_mean_0 : decode cX2_mean 0 = .ok (.aload_n 0, 1) := by decide +kernel
theorem dX2_mean_1 : decode cX2_mean 1 = .ok (.getfield 10, 3) := by decide +kernel
theorem dX2_mean_4 : decode cX2_mean 4 = .ok (.invokevirtual 160, 3) := by decide +kernel
theorem dX2_mean_7 : decode cX2_mean 7 = .ok (.istore_n 1, 1) := by decide +kernel
theorem dX2_mean_8 : decode cX2_mean 8 = .ok (.iload_n 1, 1) := by decide +kernel
theorem dX2_mean_9 : decode cX2_mean 9 = .ok (.ifCond .ne 7, 3) := by decide +kernel
theorem dX2_mean_12 : decode cX2_mean 12 = .ok (.dconst 0, 1) := by decide +kernel
theorem dX2_mean_13 : decode cX2_mean 13 = .ok (.goto 14, 3) := by decide +kernel
theorem dX2_mean_16 : decode cX2_mean 16 = .ok (.aload_n 0, 1) := by decide +kernel
theorem dX2_mean_17 : decode cX2_mean 17 = .ok (.getfield 10, 3) := by decide +kernel
theorem dX2_mean_20 : decode cX2_mean 20 = .ok (.invokevirtual 163, 3) := by decide +kernel
theorem dX2_mean_23 : decode cX2_mean 23 = .ok (.i2d, 1) := by decide +kernel
theorem dX2_mean_24 : decode cX2_mean 24 = .ok (.iload_n 1, 1) := by decide +kernel
theorem dX2_mean_25 : decode cX2_mean 25 = .ok (.i2d, 1) := by decide +kernel
theorem dX2_mean_26 : decode cX2_mean 26 = .ok (.ddiv, 1) := by decide +kernel
theorem dX2_mean_27 : decode cX2_mean 27 = .ok (.dreturn, 1) := by decide +kernel
theorem dX2_checkString_0 : decode cX2_checkString 0 = .ok (.iload_n 0, 1) := by decide +kernel
theorem dX2_checkString_1 : decode cX2_checkString 1 = .ok (.ifCond .lt 9, 3) := by decide +kernel
theorem dX2_checkString_4 : decode cX2_checkString 4 = .ok (.iload_n 0, 1) := by decide +kernel
theorem dX2_checkString_5 : decode cX2_checkString 5 = .ok (.bipush 12, 2) := by decide +kernel
theorem dX2_checkString_7 : decode cX2_checkString 7 = .ok (.if_icmp .lt 13, 3) := by decide +kernel
theorem dX2_checkString_10 : decode cX2_checkString 10 = .ok (.new 73, 3) := by decide +kernel
theorem dX2_checkString_13 : decode cX2_checkString 13 = .ok (.dup, 1) := by decide +kernel
theorem dX2_checkString_14 : decode cX2_checkString 14 = .ok (.ldc 174, 2) := by decide +kernel
theorem dX2_checkString_16 : decode cX2_checkString 16 = .ok (.invokespecial 77, 3) := by decide +kernel
theorem dX2_checkString_19 : decode cX2_checkString 19 = .ok (.athrow, 1) := by decide +kernel
theorem dX2_checkString_20 : decode cX2_checkString 20 = .ok (.return_, 1) := by decide +kernel
theorem dX2_checkWedgeSteps_0 : decode cX2_checkWedgeSteps 0 = .ok (.iload_n 0, 1) := by decide +kernel
theorem dX2_checkWedgeSteps_1 : decode cX2_checkWedgeSteps 1 = .ok (.bipush (-20), 2) := by decide +kernel
theorem dX2_checkWedgeSteps_3 : decode cX2_checkWedgeSteps 3 = .ok (.if_icmp .lt 9, 3) := by decide +kernel
theorem dX2_checkWedgeSteps_6 : decode cX2_checkWedgeSteps 6 = .ok (.iload_n 0, 1) := by decide +kernel
theorem dX2_checkWedgeSteps_7 : decode cX2_checkWedgeSteps 7 = .ok (.bipush 20, 2) := by decide +kernel
theorem dX2_checkWedgeSteps_9 : decode cX2_checkWedgeSteps 9 = .ok (.if_icmp .le 13, 3) := by decide +kernel
theorem dX2_checkWedgeSteps_12 : decode cX2_checkWedgeSteps 12 = .ok (.new 44, 3) := by decide +kernel
theorem dX2_checkWedgeSteps_15 : decode cX2_checkWedgeSteps 15 = .ok (.dup, 1) := by decide +kernel
theorem dX2_checkWedgeSteps_16 : decode cX2_checkWedgeSteps 16 = .ok (.ldc 176, 2) := by decide +kernel
theorem dX2_checkWedgeSteps_18 : decode cX2_checkWedgeSteps 18 = .ok (.invokespecial 48, 3) := by decide +kernel
theorem dX2_checkWedgeSteps_21 : decode cX2_checkWedgeSteps 21 = .ok (.athrow, 1) := by decide +kernel
theorem dX2_checkWedgeSteps_22 : decode cX2_checkWedgeSteps 22 = .ok (.return_, 1) := by decide +kernel
theorem dX2_checkTone_0 : decode cX2_checkTone 0 = .ok (.iload_n 0, 1) := by decide +kernel
theorem dX2_checkTone_1 : decode cX2_checkTone 1 = .ok (.iload_n 1, 1) := by decide +kernel
theorem dX2_checkTone_2 : decode cX2_checkTone 2 = .ok (.if_icmp .lt 10, 3) := by decide +kernel
theorem dX2_checkTone_5 : decode cX2_checkTone 5 = .ok (.iload_n 0, 1) := by decide +kernel
theorem dX2_checkTone_6 : decode cX2_checkTone 6 = .ok (.sipush 1500, 3) := by decide +kernel
theorem dX2_checkTone_9 : decode cX2_checkTone 9 = .ok (.if_icmp .le 13, 3) := by decide +kernel
theorem dX2_checkTone_12 : decode cX2_checkTone 12 = .ok (.new 44, 3) := by decide +kernel
theorem dX2_checkTone_15 : decode cX2_checkTone 15 = .ok (.dup, 1) := by decide +kernel
theorem dX2_checkTone_16 : decode cX2_checkTone 16 = .ok (.ldc 178, 2) := by decide +kernel
theorem dX2_checkTone_18 : decode cX2_checkTone 18 = .ok (.invokespecial 48, 3) := by decide +kernel
theorem dX2_checkTone_21 : decode cX2_checkTone 21 = .ok (.athrow, 1) := by decide +kernel
theorem dX2_checkTone_22 : decode cX2_checkTone 22 = .ok (.return_, 1) := by decide +kernel
theorem dX2_checkHours_0 : decode cX2_checkHours 0 = .ok (.iload_n 0, 1) := by decide +kernel
theorem dX2_checkHours_1 : decode cX2_checkHours 1 = .ok (.iconst 1, 1) := by decide +kernel
theorem dX2_checkHours_2 : decode cX2_checkHours 2 = .ok (.if_icmp .lt 10, 3) := by decide +kernel
theorem dX2_checkHours_5 : decode cX2_checkHours 5 = .ok (.iload_n 0, 1) := by decide +kernel
theorem dX2_checkHours_6 : decode cX2_checkHours 6 = .ok (.sipush 200, 3) := by decide +kernel
theorem dX2_checkHours_9 : decode cX2_checkHours 9 = .ok (.if_icmp .le 13, 3) := by decide +kernel
theorem dX2_checkHours_12 : decode cX2_checkHours 12 = .ok (.new 44, 3) := by decide +kernel
theorem dX2_checkHours_15 : decode cX2_checkHours 15 = .ok (.dup, 1) := by decide +kernel
theorem dX2_checkHours_16 : decode cX2_checkHours 16 = .ok (.ldc 180, 2) := by decide +kernel
theorem dX2_checkHours_18 : decode cX2_checkHours 18 = .ok (.invokespecial 48, 3) := by decide +kernel
theorem dX2_checkHours_21 : decode cX2_checkHours 21 = .ok (.athrow, 1) := by decide +kernel
theorem dX2_checkHours_22 : decode cX2_checkHours 22 = .ok (.return_, 1) := by decide +kernel
theorem dX2_checkChord_0 : decode cX2_checkChord 0 = .ok (.iload_n 1, 1) := by decide +kernel
theorem dX2_checkChord_1 : decode cX2_checkChord 1 = .ok (.ifCond .lt 11, 3) := by decide +kernel
theorem dX2_checkChord_4 : decode cX2_checkChord 4 = .ok (.iload_n 1, 1) := by decide +kernel
theorem dX2_checkChord_5 : decode cX2_checkChord 5 = .ok (.aload_n 0, 1) := by decide +kernel
theorem dX2_checkChord_6 : decode cX2_checkChord 6 = .ok (.getfield 33, 3) := by decide +kernel
theorem dX2_checkChord_9 : decode cX2_checkChord 9 = .ok (.if_icmp .lt 13, 3) := by decide +kernel
theorem dX2_checkChord_12 : decode cX2_checkChord 12 = .ok (.new 73, 3) := by decide +kernel
theorem dX2_checkChord_15 : decode cX2_checkChord 15 = .ok (.dup, 1) := by decide +kernel
theorem dX2_checkChord_16 : decode cX2_checkChord 16 = .ok (.ldc 182, 2) := by decide +kernel
theorem dX2_checkChord_18 : decode cX2_checkChord 18 = .ok (.invokespecial 77, 3) := by decide +kernel
theorem dX2_checkChord_21 : decode cX2_checkChord 21 = .ok (.athrow, 1) := by decide +kernel
theorem dX2_checkChord_22 : decode cX2_checkChord 22 = .ok (.return_, 1) := by decide +kernel
theorem dX2_weatherAt_0 : decode cX2_weatherAt 0 = .ok (.bipush 10, 2) := by decide +kernel
theorem dX2_weatherAt_2 : decode cX2_weatherAt 2 = .ok (.aload_n 0, 1) := by decide +kernel
theorem dX2_weatherAt_3 : decode cX2_weatherAt 3 = .ok (.getfield 19, 3) := by decide +kernel
theorem dX2_weatherAt_6 : decode cX2_weatherAt 6 = .ok (.iload_n 1, 1) := by decide +kernel
theorem dX2_weatherAt_7 : decode cX2_weatherAt 7 = .ok (.iaload, 1) := by decide +kernel
theorem dX2_weatherAt_8 : decode cX2_weatherAt 8 = .ok (.imul, 1) := by decide +kernel
theorem dX2_weatherAt_9 : decode cX2_weatherAt 9 = .ok (.aload_n 0, 1) := by decide +kernel
theorem dX2_weatherAt_10 : decode cX2_weatherAt 10 = .ok (.getfield 23, 3) := by decide +kernel
theorem dX2_weatherAt_13 : decode cX2_weatherAt 13 = .ok (.iload_n 1, 1) := by decide +kernel
theorem dX2_weatherAt_14 : decode cX2_weatherAt 14 = .ok (.iaload, 1) := by decide +kernel
theorem dX2_weatherAt_15 : decode cX2_weatherAt 15 = .ok (.iadd, 1) := by decide +kernel
theorem dX2_weatherAt_16 : decode cX2_weatherAt 16 = .ok (.ireturn, 1) := by decide +kernel
set_option maxRecDepth 20000 in
theorem ggX2_countOf_X1_wholeStrings : GoodIn wsX2_countOf wsX1_wholeStrings := goodIn_r _ [12, 13, 52, 53, 54, 55, 56, 57, 58, 59] (by decide +kernel) (by decide +kernel)
set_option maxRecDepth 20000 in
theorem gX2_countOf_X1_wholeStrings : GoodIn wsX2_countOf (wsV RX2 160 RX1 yX1_wholeStrings wsX1_wholeStrings) := goodIn_app (goodIn_of _ (by decide +kernel)) ggX2_countOf_X1_wholeStrings
set_option maxRecDepth 20000 in
theorem ggX2_countOf_X2_soundingChords : GoodIn wsX2_countOf wsX2_soundingChords := goodIn_r _ [18, 3, 1, 19, 20, 21, 22, 11, 23, 24, 25, 26, 27, 28, 29, 13, 30, 31, 32, 33, 34, 35, 36, 37, 38, 39, 40, 41, 42, 46, 47, 48, 49, 50, 51, 60, 61, 62, 52, 53, 54, 55, 56, 57, 58, 59] (by decide +kernel) (by decide +kernel)
set_option maxRecDepth 20000 in
theorem gX2_countOf_X2_soundingChords : GoodIn wsX2_countOf (wsV RX2 187 RX2 yX2_soundingChords wsX2_soundingChords) := goodIn_app (goodIn_of _ (by decide +kernel)) ggX2_countOf_X2_soundingChords
set_option maxRecDepth 20000 in
theorem ggX2_countOf_X2_sumOf : GoodIn wsX2_countOf wsX2_sumOf := goodIn_r _ [45] (by decide +kernel) (by decide +kernel)
set_option maxRecDepth 20000 in
theorem gX2_countOf_X2_sumOf : GoodIn wsX2_countOf (va_wsS RX2 193 yX2_sumOf wsX2_sumOf) := goodIn_app (goodIn_of _ (by decide +kernel)) ggX2_countOf_X2_sumOf
theorem dX2_countOf_0 : decode cX2_countOf 0 = .ok (.iload_n 1, 1) := by decide +kernel
theorem dX2_countOf_1 : decode cX2_countOf 1 = .ok (.tableswitch 99 0 6 #[43, 51, 59, 64, 69, 77, 88], 43) := by decide +kernel
theorem dX2_countOf_44 : decode cX2_countOf 44 = .ok (.aload_n 0, 1) := by decide +kernel
theorem dX2_countOf_45 : decode cX2_countOf 45 = .ok (.getfield 10, 3) := by decide +kernel
theorem dX2_countOf_48 : decode cX2_countOf 48 = .ok (.getfield 184, 3) := by decide +kernel
theorem dX2_countOf_51 : decode cX2_countOf 51 = .ok (.ireturn, 1) := by decide +kernel
theorem dX2_countOf_52 : decode cX2_countOf 52 = .ok (.aload_n 0, 1) := by decide +kernel
theorem dX2_countOf_53 : decode cX2_countOf 53 = .ok (.getfield 10, 3) := by decide +kernel
theorem dX2_countOf_56 : decode cX2_countOf 56 = .ok (.invokevirtual 160, 3) := by decide +kernel
theorem dX2_countOf_59 : decode cX2_countOf 59 = .ok (.ireturn, 1) := by decide +kernel
theorem dX2_countOf_60 : decode cX2_countOf 60 = .ok (.aload_n 0, 1) := by decide +kernel
theorem dX2_countOf_61 : decode cX2_countOf 61 = .ok (.getfield 33, 3) := by decide +kernel
theorem dX2_countOf_64 : decode cX2_countOf 64 = .ok (.ireturn, 1) := by decide +kernel
theorem dX2_countOf_65 : decode cX2_countOf 65 = .ok (.aload_n 0, 1) := by decide +kernel
theorem dX2_countOf_66 : decode cX2_countOf 66 = .ok (.invokevirtual 187, 3) := by decide +kernel
theorem dX2_countOf_69 : decode cX2_countOf 69 = .ok (.ireturn, 1) := by decide +kernel
theorem dX2_countOf_70 : decode cX2_countOf 70 = .ok (.aload_n 0, 1) := by decide +kernel
theorem dX2_countOf_71 : decode cX2_countOf 71 = .ok (.getfield 10, 3) := by decide +kernel
theorem dX2_countOf_74 : decode cX2_countOf 74 = .ok (.getfield 190, 3) := by decide +kernel
theorem dX2_countOf_77 : decode cX2_countOf 77 = .ok (.ireturn, 1) := by decide +kernel
theorem dX2_countOf_78 : decode cX2_countOf 78 = .ok (.aload_n 0, 1) := by decide +kernel
theorem dX2_countOf_79 : decode cX2_countOf 79 = .ok (.getfield 10, 3) := by decide +kernel
theorem dX2_countOf_82 : decode cX2_countOf 82 = .ok (.getfield 60, 3) := by decide +kernel
theorem dX2_countOf_85 : decode cX2_countOf 85 = .ok (.invokestatic 193, 3) := by decide +kernel
theorem dX2_countOf_88 : decode cX2_countOf 88 = .ok (.ireturn, 1) := by decide +kernel
theorem dX2_countOf_89 : decode cX2_countOf 89 = .ok (.aload_n 0, 1) := by decide +kernel
theorem dX2_countOf_90 : decode cX2_countOf 90 = .ok (.getfield 10, 3) := by decide +kernel
theorem dX2_countOf_93 : decode cX2_countOf 93 = .ok (.getfield 197, 3) := by decide +kernel
theorem dX2_countOf_96 : decode cX2_countOf 96 = .ok (.invokestatic 193, 3) := by decide +kernel
theorem dX2_countOf_99 : decode cX2_countOf 99 = .ok (.ireturn, 1) := by decide +kernel
theorem dX2_countOf_100 : decode cX2_countOf 100 = .ok (.aload_n 0, 1) := by decide +kernel
theorem dX2_countOf_101 : decode cX2_countOf 101 = .ok (.getfield 10, 3) := by decide +kernel
theorem dX2_countOf_104 : decode cX2_countOf 104 = .ok (.getfield 200, 3) := by decide +kernel
theorem dX2_countOf_107 : decode cX2_countOf 107 = .ok (.invokestatic 193, 3) := by decide +kernel
theorem dX2_countOf_110 : decode cX2_countOf 110 = .ok (.ireturn, 1) := by decide +kernel
set_option maxRecDepth 20000 in
theorem ggX2_soundingChords_X1_isTunedTo : GoodIn wsX2_soundingChords wsX1_isTunedTo := goodIn_r _ [8, 9, 10, 11, 12, 7, 13, 14, 15, 16, 17, 18, 19, 20, 21, 22, 23, 24, 25, 26, 27, 28, 35, 36, 37, 38, 39, 40, 41, 42, 43, 44, 45] (by decide +kernel) (by decide +kernel)
set_option maxRecDepth 20000 in
theorem gX2_soundingChords_X1_isTunedTo : GoodIn wsX2_soundingChords (wsV RX2 123 RX1 yX1_isTunedTo wsX1_isTunedTo) := goodIn_app (goodIn_of _ (by decide +kernel)) ggX2_soundingChords_X1_isTunedTo
theorem dX2_soundingChords_0 : decode cX2_soundingChords 0 = .ok (.iconst 0, 1) := by decide +kernel
theorem dX2_soundingChords_1 : decode cX2_soundingChords 1 = .ok (.istore_n 1, 1) := by decide +kernel
theorem dX2_soundingChords_2 : decode cX2_soundingChords 2 = .ok (.iconst 0, 1) := by decide +kernel
theorem dX2_soundingChords_3 : decode cX2_soundingChords 3 = .ok (.istore_n 2, 1) := by decide +kernel
theorem dX2_soundingChords_4 : decode cX2_soundingChords 4 = .ok (.iload_n 2, 1) := by decide +kernel
theorem dX2_soundingChords_5 : decode cX2_soundingChords 5 = .ok (.aload_n 0, 1) := by decide +kernel
theorem dX2_soundingChords_6 : decode cX2_soundingChords 6 = .ok (.getfield 33, 3) := by decide +kernel
theorem dX2_soundingChords_9 : decode cX2_soundingChords 9 = .ok (.if_icmp .ge 28, 3) := by decide +kernel
theorem dX2_soundingChords_12 : decode cX2_soundingChords 12 = .ok (.aload_n 0, 1) := by decide +kernel
theorem dX2_soundingChords_13 : decode cX2_soundingChords 13 = .ok (.getfield 10, 3) := by decide +kernel
theorem dX2_soundingChords_16 : decode cX2_soundingChords 16 = .ok (.aload_n 0, 1) := by decide +kernel
theorem dX2_soundingChords_17 : decode cX2_soundingChords 17 = .ok (.getfield 28, 3) := by decide +kernel
theorem dX2_soundingChords_20 : decode cX2_soundingChords 20 = .ok (.iload_n 2, 1) := by decide +kernel
theorem dX2_soundingChords_21 : decode cX2_soundingChords 21 = .ok (.aaload, 1) := by decide +kernel
theorem dX2_soundingChords_22 : decode cX2_soundingChords 22 = .ok (.invokevirtual 123, 3) := by decide +kernel
theorem dX2_soundingChords_25 : decode cX2_soundingChords 25 = .ok (.ifCond .eq 6, 3) := by decide +kernel
theorem dX2_soundingChords_28 : decode cX2_soundingChords 28 = .ok (.iinc 1 1, 3) := by decide +kernel
theorem dX2_soundingChords_31 : decode cX2_soundingChords 31 = .ok (.iinc 2 1, 3) := by decide +kernel
theorem dX2_soundingChords_34 : decode cX2_soundingChords 34 = .ok (.goto (-30), 3) := by decide +kernel
theorem dX2_soundingChords_37 : decode cX2_soundingChords 37 = .ok (.iload_n 1, 1) := by decide +kernel
theorem dX2_soundingChords_38 : decode cX2_soundingChords 38 = .ok (.ireturn, 1) := by decide +kernel
theorem dX2_sumOf_0 : decode cX2_sumOf 0 = .ok (.iconst 0, 1) := by decide +kernel
theorem dX2_sumOf_1 : decode cX2_sumOf 1 = .ok (.istore_n 1, 1) := by decide +kernel
theorem dX2_sumOf_2 : decode cX2_sumOf 2 = .ok (.aload_n 0, 1) := by decide +kernel
theorem dX2_sumOf_3 : decode cX2_sumOf 3 = .ok (.astore_n 2, 1) := by decide +kernel
theorem dX2_sumOf_4 : decode cX2_sumOf 4 = .ok (.aload_n 2, 1) := by decide +kernel
theorem dX2_sumOf_5 : decode cX2_sumOf 5 = .ok (.arraylength, 1) := by decide +kernel
theorem dX2_sumOf_6 : decode cX2_sumOf 6 = .ok (.istore_n 3, 1) := by decide +kernel
theorem dX2_sumOf_7 : decode cX2_sumOf 7 = .ok (.iconst 0, 1) := by decide +kernel
theorem dX2_sumOf_8 : decode cX2_sumOf 8 = .ok (.istore 4, 2) := by decide +kernel
theorem dX2_sumOf_10 : decode cX2_sumOf 10 = .ok (.iload 4, 2) := by decide +kernel
theorem dX2_sumOf_12 : decode cX2_sumOf 12 = .ok (.iload_n 3, 1) := by decide +kernel
theorem dX2_sumOf_13 : decode cX2_sumOf 13 = .ok (.if_icmp .ge 20, 3) := by decide +kernel
theorem dX2_sumOf_16 : decode cX2_sumOf 16 = .ok (.aload_n 2, 1) := by decide +kernel
theorem dX2_sumOf_17 : decode cX2_sumOf 17 = .ok (.iload 4, 2) := by decide +kernel
theorem dX2_sumOf_19 : decode cX2_sumOf 19 = .ok (.iaload, 1) := by decide +kernel
theorem dX2_sumOf_20 : decode cX2_sumOf 20 = .ok (.istore 5, 2) := by decide +kernel
theorem dX2_sumOf_22 : decode cX2_sumOf 22 = .ok (.iload_n 1, 1) := by decide +kernel
theorem dX2_sumOf_23 : decode cX2_sumOf 23 = .ok (.iload 5, 2) := by decide +kernel
theorem dX2_sumOf_25 : decode cX2_sumOf 25 = .ok (.iadd, 1) := by decide +kernel
theorem dX2_sumOf_26 : decode cX2_sumOf 26 = .ok (.istore_n 1, 1) := by decide +kernel
theorem dX2_sumOf_27 : decode cX2_sumOf 27 = .ok (.iinc 4 1, 3) := by decide +kernel
theorem dX2_sumOf_30 : decode cX2_sumOf 30 = .ok (.goto (-20), 3) := by decide +kernel
theorem dX2_sumOf_33 : decode cX2_sumOf 33 = .ok (.iload_n 1, 1) := by decide +kernel
theorem dX2_sumOf_34 : decode cX2_sumOf 34 = .ok (.ireturn, 1) := by decide +kernel
set_option maxRecDepth 20000 in
theorem ggX2_letHourGo_X1_hourOfTable : GoodIn wsX2_letHourGo wsX1_hourOfTable := goodIn_r _ [7, 8, 9, 10, 11, 12, 53, 54, 55, 56, 57, 58, 59, 60] (by decide +kernel) (by decide +kernel)
set_option maxRecDepth 20000 in
theorem gX2_letHourGo_X1_hourOfTable : GoodIn wsX2_letHourGo (wsV RX2 206 RX1 yX1_hourOfTable wsX1_hourOfTable) := goodIn_app (goodIn_of _ (by decide +kernel)) ggX2_letHourGo_X1_hourOfTable
set_option maxRecDepth 20000 in
theorem ggX2_letHourGo_X1_spendHour : GoodIn wsX2_letHourGo wsX1_spendHour := goodIn_r _ [16, 17, 8, 18, 19, 20, 6, 21, 22, 23, 24, 25, 26, 27, 28, 29, 30, 31, 32, 33, 34, 35, 36, 37, 38, 39, 40, 41, 42, 43, 44, 45, 46, 53, 54, 55, 56, 57, 58, 59, 60] (by decide +kernel) (by decide +kernel)
set_option maxRecDepth 20000 in
theorem gX2_letHourGo_X1_spendHour : GoodIn wsX2_letHourGo (wsV RX2 209 RX1 yX1_spendHour wsX1_spendHour) := goodIn_app (goodIn_of _ (by decide +kernel)) ggX2_letHourGo_X1_spendHour
theorem dX2_letHourGo_0 : decode cX2_letHourGo 0 = .ok (.aload_n 1, 1) := by decide +kernel
theorem dX2_letHourGo_1 : decode cX2_letHourGo 1 = .ok (.invokevirtual 206, 3) := by decide +kernel
theorem dX2_letHourGo_4 : decode cX2_letHourGo 4 = .ok (.istore 4, 2) := by decide +kernel
theorem dX2_letHourGo_6 : decode cX2_letHourGo 6 = .ok (.aload_n 1, 1) := by decide +kernel
theorem dX2_letHourGo_7 : decode cX2_letHourGo 7 = .ok (.iload_n 2, 1) := by decide +kernel
theorem dX2_letHourGo_8 : decode cX2_letHourGo 8 = .ok (.iload_n 3, 1) := by decide +kernel
theorem dX2_letHourGo_9 : decode cX2_letHourGo 9 = .ok (.aload_n 0, 1) := by decide +kernel
theorem dX2_letHourGo_10 : decode cX2_letHourGo 10 = .ok (.getfield 19, 3) := by decide +kernel
theorem dX2_letHourGo_13 : decode cX2_letHourGo 13 = .ok (.iload 4, 2) := by decide +kernel
theorem dX2_letHourGo_15 : decode cX2_letHourGo 15 = .ok (.iaload, 1) := by decide +kernel
theorem dX2_letHourGo_16 : decode cX2_letHourGo 16 = .ok (.aload_n 0, 1) := by decide +kernel
theorem dX2_letHourGo_17 : decode cX2_letHourGo 17 = .ok (.getfield 23, 3) := by decide +kernel
theorem dX2_letHourGo_20 : decode cX2_letHourGo 20 = .ok (.iload 4, 2) := by decide +kernel
theorem dX2_letHourGo_22 : decode cX2_letHourGo 22 = .ok (.iaload, 1) := by decide +kernel
theorem dX2_letHourGo_23 : decode cX2_letHourGo 23 = .ok (.invokevirtual 209, 3) := by decide +kernel
theorem dX2_letHourGo_26 : decode cX2_letHourGo 26 = .ok (.ireturn, 1) := by decide +kernel
theorem dX2_lowestToBreak_0 : decode cX2_lowestToBreak 0 = .ok (.iconst 0, 1) := by decide +kernel
theorem dX2_lowestToBreak_1 : decode cX2_lowestToBreak 1 = .ok (.istore_n 1, 1) := by decide +kernel
theorem dX2_lowestToBreak_2 : decode cX2_lowestToBreak 2 = .ok (.iload_n 1, 1) := by decide +kernel
theorem dX2_lowestToBreak_3 : decode cX2_lowestToBreak 3 = .ok (.bipush 12, 2) := by decide +kernel
theorem dX2_lowestToBreak_5 : decode cX2_lowestToBreak 5 = .ok (.if_icmp .ge 35, 3) := by decide +kernel
theorem dX2_lowestToBreak_8 : decode cX2_lowestToBreak 8 = .ok (.aload_n 0, 1) := by decide +kernel
theorem dX2_lowestToBreak_9 : decode cX2_lowestToBreak 9 = .ok (.getfield 10, 3) := by decide +kernel
theorem dX2_lowestToBreak_12 : decode cX2_lowestToBreak 12 = .ok (.getfield 91, 3) := by decide +kernel
theorem dX2_lowestToBreak_15 : decode cX2_lowestToBreak 15 = .ok (.iload_n 1, 1) := by decide +kernel
theorem dX2_lowestToBreak_16 : decode cX2_lowestToBreak 16 = .ok (.baload, 1) := by decide +kernel
theorem dX2_lowestToBreak_17 : decode cX2_lowestToBreak 17 = .ok (.ifCond .eq 17, 3) := by decide +kernel
theorem dX2_lowestToBreak_20 : decode cX2_lowestToBreak 20 = .ok (.aload_n 0, 1) := by decide +kernel
theorem dX2_lowestToBreak_21 : decode cX2_lowestToBreak 21 = .ok (.getfield 16, 3) := by decide +kernel
theorem dX2_lowestToBreak_24 : decode cX2_lowestToBreak 24 = .ok (.getfield 91, 3) := by decide +kernel
theorem dX2_lowestToBreak_27 : decode cX2_lowestToBreak 27 = .ok (.iload_n 1, 1) := by decide +kernel
theorem dX2_lowestToBreak_28 : decode cX2_lowestToBreak 28 = .ok (.baload, 1) := by decide +kernel
theorem dX2_lowestToBreak_29 : decode cX2_lowestToBreak 29 = .ok (.ifCond .ne 5, 3) := by decide +kernel
theorem dX2_lowestToBreak_32 : decode cX2_lowestToBreak 32 = .ok (.iload_n 1, 1) := by decide +kernel
theorem dX2_lowestToBreak_33 : decode cX2_lowestToBreak 33 = .ok (.ireturn, 1) := by decide +kernel
theorem dX2_lowestToBreak_34 : decode cX2_lowestToBreak 34 = .ok (.iinc 1 1, 3) := by decide +kernel
theorem dX2_lowestToBreak_37 : decode cX2_lowestToBreak 37 = .ok (.goto (-35), 3) := by decide +kernel
theorem dX2_lowestToBreak_40 : decode cX2_lowestToBreak 40 = .ok (.iconst (-1), 1) := by decide +kernel
theorem dX2_lowestToBreak_41 : decode cX2_lowestToBreak 41 = .ok (.ireturn, 1) := by decide +kernel
set_option maxRecDepth 20000 in
theorem ggX2_fewestSteps_X1_fitsPushed : GoodIn wsX2_fewestSteps wsX1_fitsPushed := goodIn_r _ [14, 15, 16, 17, 18, 4, 5, 6, 19, 20, 21, 13, 22, 23, 24, 25, 26, 34, 35, 36, 37, 38, 39, 40, 41, 42, 43, 44] (by decide +kernel) (by decide +kernel)
set_option maxRecDepth 20000 in
theorem gX2_fewestSteps_X1_fitsPushed : GoodIn wsX2_fewestSteps (wsV RX2 213 RX1 yX1_fitsPushed wsX1_fitsPushed) := goodIn_app (goodIn_of _ (by decide +kernel)) ggX2_fewestSteps_X1_fitsPushed
set_option maxRecDepth 20000 in
theorem ggX2_fewestSteps_X1_takesPush : GoodIn wsX2_fewestSteps wsX1_takesPush := goodIn_r _ [30, 23, 37, 38, 39, 40, 41, 42, 43, 44] (by decide +kernel) (by decide +kernel)
set_option maxRecDepth 20000 in
theorem gX2_fewestSteps_X1_takesPush : GoodIn wsX2_fewestSteps (wsV RX2 51 RX1 yX1_takesPush wsX1_takesPush) := goodIn_app (goodIn_of _ (by decide +kernel)) ggX2_fewestSteps_X1_takesPush
set_option maxRecDepth 20000 in
theorem ggX2_fewestSteps_X2_fewestSteps : GoodIn wsX2_fewestSteps wsX2_fewestSteps := goodIn_r _ [0, 1, 2, 3, 4, 5, 6, 7, 8, 9, 10, 11, 12, 13, 14, 15, 16, 17, 18, 19, 20, 21, 22, 23, 24, 25, 26, 27, 28, 29, 30, 31, 32, 33, 34, 35, 36, 37, 38, 39, 40, 41, 42, 43, 44] (by decide +kernel) (by decide +kernel)
set_option maxRecDepth 20000 in
theorem gX2_fewestSteps_X2_fewestSteps : GoodIn wsX2_fewestSteps (va_wsS RX2 127 yX2_fewestSteps wsX2_fewestSteps) := goodIn_app (goodIn_of _ (by decide +kernel)) ggX2_fewestSteps_X2_fewestSteps
theorem dX2_fewestSteps_0 : decode cX2_fewestSteps 0 = .ok (.iload_n 2, 1) := by decide +kernel
theorem dX2_fewestSteps_1 : decode cX2_fewestSteps 1 = .ok (.aload_n 1, 1) := by decide +kernel
theorem dX2_fewestSteps_2 : decode cX2_fewestSteps 2 = .ok (.getfield 157, 3) := by decide +kernel
theorem dX2_fewestSteps_5 : decode cX2_fewestSteps 5 = .ok (.if_icmp .lt 25, 3) := by decide +kernel
theorem dX2_fewestSteps_8 : decode cX2_fewestSteps 8 = .ok (.aload_n 0, 1) := by decide +kernel
theorem dX2_fewestSteps_9 : decode cX2_fewestSteps 9 = .ok (.aload_n 1, 1) := by decide +kernel
theorem dX2_fewestSteps_10 : decode cX2_fewestSteps 10 = .ok (.iload_n 2, 1) := by decide +kernel
theorem dX2_fewestSteps_11 : decode cX2_fewestSteps 11 = .ok (.iconst 1, 1) := by decide +kernel
theorem dX2_fewestSteps_12 : decode cX2_fewestSteps 12 = .ok (.isub, 1) := by decide +kernel
theorem dX2_fewestSteps_13 : decode cX2_fewestSteps 13 = .ok (.iload 4, 2) := by decide +kernel
theorem dX2_fewestSteps_15 : decode cX2_fewestSteps 15 = .ok (.iload_n 3, 1) := by decide +kernel
theorem dX2_fewestSteps_16 : decode cX2_fewestSteps 16 = .ok (.invokevirtual 213, 3) := by decide +kernel
theorem dX2_fewestSteps_19 : decode cX2_fewestSteps 19 = .ok (.ifCond .eq 7, 3) := by decide +kernel
theorem dX2_fewestSteps_22 : decode cX2_fewestSteps 22 = .ok (.iconst 0, 1) := by decide +kernel
theorem dX2_fewestSteps_23 : decode cX2_fewestSteps 23 = .ok (.goto 6, 3) := by decide +kernel
theorem dX2_fewestSteps_26 : decode cX2_fewestSteps 26 = .ok (.sipush 1000, 3) := by decide +kernel
theorem dX2_fewestSteps_29 : decode cX2_fewestSteps 29 = .ok (.ireturn, 1) := by decide +kernel
theorem dX2_fewestSteps_30 : decode cX2_fewestSteps 30 = .ok (.sipush 1000, 3) := by decide +kernel
theorem dX2_fewestSteps_33 : decode cX2_fewestSteps 33 = .ok (.istore 5, 2) := by decide +kernel
theorem dX2_fewestSteps_35 : decode cX2_fewestSteps 35 = .ok (.bipush (-4), 2) := by decide +kernel
theorem dX2_fewestSteps_37 : decode cX2_fewestSteps 37 = .ok (.istore 6, 2) := by decide +kernel
theorem dX2_fewestSteps_39 : decode cX2_fewestSteps 39 = .ok (.iload 6, 2) := by decide +kernel
theorem dX2_fewestSteps_41 : decode cX2_fewestSteps 41 = .ok (.iconst 4, 1) := by decide +kernel
theorem dX2_fewestSteps_42 : decode cX2_fewestSteps 42 = .ok (.if_icmp .gt 74, 3) := by decide +kernel
theorem dX2_fewestSteps_45 : decode cX2_fewestSteps 45 = .ok (.aload_n 0, 1) := by decide +kernel
theorem dX2_fewestSteps_46 : decode cX2_fewestSteps 46 = .ok (.aload_n 1, 1) := by decide +kernel
theorem dX2_fewestSteps_47 : decode cX2_fewestSteps 47 = .ok (.getfield 154, 3) := by decide +kernel
theorem dX2_fewestSteps_50 : decode cX2_fewestSteps 50 = .ok (.iload_n 2, 1) := by decide +kernel
theorem dX2_fewestSteps_51 : decode cX2_fewestSteps 51 = .ok (.iadd, 1) := by decide +kernel
theorem dX2_fewestSteps_52 : decode cX2_fewestSteps 52 = .ok (.iload 6, 2) := by decide +kernel
theorem dX2_fewestSteps_54 : decode cX2_fewestSteps 54 = .ok (.invokevirtual 51, 3) := by decide +kernel
theorem dX2_fewestSteps_57 : decode cX2_fewestSteps 57 = .ok (.ifCond .eq 53, 3) := by decide +kernel
theorem dX2_fewestSteps_60 : decode cX2_fewestSteps 60 = .ok (.iload_n 2, 1) := by decide +kernel
theorem dX2_fewestSteps_61 : decode cX2_fewestSteps 61 = .ok (.ifCond .eq 20, 3) := by decide +kernel
theorem dX2_fewestSteps_64 : decode cX2_fewestSteps 64 = .ok (.aload_n 0, 1) := by decide +kernel
theorem dX2_fewestSteps_65 : decode cX2_fewestSteps 65 = .ok (.aload_n 1, 1) := by decide +kernel
theorem dX2_fewestSteps_66 : decode cX2_fewestSteps 66 = .ok (.iload_n 2, 1) := by decide +kernel
theorem dX2_fewestSteps_67 : decode cX2_fewestSteps 67 = .ok (.iconst 1, 1) := by decide +kernel
theorem dX2_fewestSteps_68 : decode cX2_fewestSteps 68 = .ok (.isub, 1) := by decide +kernel
theorem dX2_fewestSteps_69 : decode cX2_fewestSteps 69 = .ok (.iload 4, 2) := by decide +kernel
theorem dX2_fewestSteps_71 : decode cX2_fewestSteps 71 = .ok (.iload_n 3, 1) := by decide +kernel
theorem dX2_fewestSteps_72 : decode cX2_fewestSteps 72 = .ok (.iload 6, 2) := by decide +kernel
theorem dX2_fewestSteps_74 : decode cX2_fewestSteps 74 = .ok (.iadd, 1) := by decide +kernel
theorem dX2_fewestSteps_75 : decode cX2_fewestSteps 75 = .ok (.invokevirtual 213, 3) := by decide +kernel
theorem dX2_fewestSteps_78 : decode cX2_fewestSteps 78 = .ok (.ifCond .eq 32, 3) := by decide +kernel
theorem dX2_fewestSteps_81 : decode cX2_fewestSteps 81 = .ok (.aload_n 0, 1) := by decide +kernel
theorem dX2_fewestSteps_82 : decode cX2_fewestSteps 82 = .ok (.aload_n 1, 1) := by decide +kernel
theorem dX2_fewestSteps_83 : decode cX2_fewestSteps 83 = .ok (.iload_n 2, 1) := by decide +kernel
theorem dX2_fewestSteps_84 : decode cX2_fewestSteps 84 = .ok (.iconst 1, 1) := by decide +kernel
theorem dX2_fewestSteps_85 : decode cX2_fewestSteps 85 = .ok (.iadd, 1) := by decide +kernel
theorem dX2_fewestSteps_86 : decode cX2_fewestSteps 86 = .ok (.iload 4, 2) := by decide +kernel
theorem dX2_fewestSteps_88 : decode cX2_fewestSteps 88 = .ok (.iload 6, 2) := by decide +kernel
theorem dX2_fewestSteps_90 : decode cX2_fewestSteps 90 = .ok (.invokestatic 127, 3) := by decide +kernel
theorem dX2_fewestSteps_93 : decode cX2_fewestSteps 93 = .ok (.istore 7, 2) := by decide +kernel
theorem dX2_fewestSteps_95 : decode cX2_fewestSteps 95 = .ok (.iload 5, 2) := by decide +kernel
theorem dX2_fewestSteps_97 : decode cX2_fewestSteps 97 = .ok (.iload 6, 2) := by decide +kernel
theorem dX2_fewestSteps_99 : decode cX2_fewestSteps 99 = .ok (.invokestatic 95, 3) := by decide +kernel
theorem dX2_fewestSteps_102 : decode cX2_fewestSteps 102 = .ok (.iload 7, 2) := by decide +kernel
theorem dX2_fewestSteps_104 : decode cX2_fewestSteps 104 = .ok (.iadd, 1) := by decide +kernel
theorem dX2_fewestSteps_105 : decode cX2_fewestSteps 105 = .ok (.invokestatic 217, 3) := by decide +kernel
theorem dX2_fewestSteps_108 : decode cX2_fewestSteps 108 = .ok (.istore 5, 2) := by decide +kernel
theorem dX2_fewestSteps_110 : decode cX2_fewestSteps 110 = .ok (.iinc 6 1, 3) := by decide +kernel
theorem dX2_fewestSteps_113 : decode cX2_fewestSteps 113 = .ok (.goto (-74), 3) := by decide +kernel
theorem dX2_fewestSteps_116 : decode cX2_fewestSteps 116 = .ok (.iload 5, 2) := by decide +kernel
theorem dX2_fewestSteps_118 : decode cX2_fewestSteps 118 = .ok (.ireturn, 1) := by decide +kernel
