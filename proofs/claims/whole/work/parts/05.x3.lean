set_option maxRecDepth 20000 in
theorem ggX3_init_X3_put : GoodIn wsX3_init wsX3_put := goodIn_r _ [15, 5, 16, 17, 18, 19, 20, 21, 22, 23] (by decide +kernel) (by decide +kernel)
set_option maxRecDepth 20000 in
theorem gX3_init_X3_put : GoodIn wsX3_init (wsV RX3 28 RX3 yX3_put wsX3_put) := goodIn_app (goodIn_of _ (by decide +kernel)) ggX3_init_X3_put
theorem dX3_init_0 : decode cX3_init 0 = .ok (.aload_n 0, 1) := by decide +kernel
theorem dX3_init_1 : decode cX3_init 1 = .ok (.invokespecial 1, 3) := by decide +kernel
theorem dX3_init_4 : decode cX3_init 4 = .ok (.aload_n 0, 1) := by decide +kernel
theorem dX3_init_5 : decode cX3_init 5 = .ok (.bipush 72, 2) := by decide +kernel
theorem dX3_init_7 : decode cX3_init 7 = .ok (.newarray .int, 2) := by decide +kernel
theorem dX3_init_9 : decode cX3_init 9 = .ok (.putfield 9, 3) := by decide +kernel
theorem dX3_init_12 : decode cX3_init 12 = .ok (.aload_n 0, 1) := by decide +kernel
theorem dX3_init_13 : decode cX3_init 13 = .ok (.bipush 36, 2) := by decide +kernel
theorem dX3_init_15 : decode cX3_init 15 = .ok (.newarray .int, 2) := by decide +kernel
theorem dX3_init_17 : decode cX3_init 17 = .ok (.putfield 13, 3) := by decide +kernel
theorem dX3_init_20 : decode cX3_init 20 = .ok (.aload_n 0, 1) := by decide +kernel
theorem dX3_init_21 : decode cX3_init 21 = .ok (.bipush 12, 2) := by decide +kernel
theorem dX3_init_23 : decode cX3_init 23 = .ok (.newarray .int, 2) := by decide +kernel
theorem dX3_init_25 : decode cX3_init 25 = .ok (.putfield 16, 3) := by decide +kernel
theorem dX3_init_28 : decode cX3_init 28 = .ok (.aload_n 0, 1) := by decide +kernel
theorem dX3_init_29 : decode cX3_init 29 = .ok (.bipush 12, 2) := by decide +kernel
theorem dX3_init_31 : decode cX3_init 31 = .ok (.newarray .int, 2) := by decide +kernel
theorem dX3_init_33 : decode cX3_init 33 = .ok (.putfield 19, 3) := by decide +kernel
theorem dX3_init_36 : decode cX3_init 36 = .ok (.aload_n 0, 1) := by decide +kernel
theorem dX3_init_37 : decode cX3_init 37 = .ok (.iconst 2, 1) := by decide +kernel
theorem dX3_init_38 : decode cX3_init 38 = .ok (.newarray .int, 2) := by decide +kernel
theorem dX3_init_40 : decode cX3_init 40 = .ok (.putfield 22, 3) := by decide +kernel
theorem dX3_init_43 : decode cX3_init 43 = .ok (.aload_n 0, 1) := by decide +kernel
theorem dX3_init_44 : decode cX3_init 44 = .ok (.bipush 12, 2) := by decide +kernel
theorem dX3_init_46 : decode cX3_init 46 = .ok (.newarray .int, 2) := by decide +kernel
theorem dX3_init_48 : decode cX3_init 48 = .ok (.putfield 25, 3) := by decide +kernel
theorem dX3_init_51 : decode cX3_init 51 = .ok (.iconst 0, 1) := by decide +kernel
theorem dX3_init_52 : decode cX3_init 52 = .ok (.istore_n 1, 1) := by decide +kernel
theorem dX3_init_53 : decode cX3_init 53 = .ok (.iload_n 1, 1) := by decide +kernel
theorem dX3_init_54 : decode cX3_init 54 = .ok (.bipush 12, 2) := by decide +kernel
theorem dX3_init_56 : decode cX3_init 56 = .ok (.if_icmp .ge 30, 3) := by decide +kernel
theorem dX3_init_59 : decode cX3_init 59 = .ok (.aload_n 0, 1) := by decide +kernel
theorem dX3_init_60 : decode cX3_init 60 = .ok (.iload_n 1, 1) := by decide +kernel
theorem dX3_init_61 : decode cX3_init 61 = .ok (.iconst 0, 1) := by decide +kernel
theorem dX3_init_62 : decode cX3_init 62 = .ok (.sipush 300, 3) := by decide +kernel
theorem dX3_init_65 : decode cX3_init 65 = .ok (.bipush 20, 2) := by decide +kernel
theorem dX3_init_67 : decode cX3_init 67 = .ok (.iload_n 1, 1) := by decide +kernel
theorem dX3_init_68 : decode cX3_init 68 = .ok (.imul, 1) := by decide +kernel
theorem dX3_init_69 : decode cX3_init 69 = .ok (.iadd, 1) := by decide +kernel
theorem dX3_init_70 : decode cX3_init 70 = .ok (.invokevirtual 28, 3) := by decide +kernel
theorem dX3_init_73 : decode cX3_init 73 = .ok (.aload_n 0, 1) := by decide +kernel
theorem dX3_init_74 : decode cX3_init 74 = .ok (.iload_n 1, 1) := by decide +kernel
theorem dX3_init_75 : decode cX3_init 75 = .ok (.iconst 4, 1) := by decide +kernel
theorem dX3_init_76 : decode cX3_init 76 = .ok (.iconst 1, 1) := by decide +kernel
theorem dX3_init_77 : decode cX3_init 77 = .ok (.invokevirtual 28, 3) := by decide +kernel
theorem dX3_init_80 : decode cX3_init 80 = .ok (.iinc 1 1, 3) := by decide +kernel
theorem dX3_init_83 : decode cX3_init 83 = .ok (.goto (-30), 3) := by decide +kernel
theorem dX3_init_86 : decode cX3_init 86 = .ok (.return_, 1) := by decide +kernel
theorem dX3_thrown_0 : decode cX3_thrown 0 = .ok (.aload_n 0, 1) := by decide +kernel
theorem dX3_thrown_1 : decode cX3_thrown 1 = .ok (.getfield 32, 3) := by decide +kernel
theorem dX3_thrown_4 : decode cX3_thrown 4 = .ok (.ireturn, 1) := by decide +kernel
theorem dX3_fail_0 : decode cX3_fail 0 = .ok (.aload_n 0, 1) := by decide +kernel
theorem dX3_fail_1 : decode cX3_fail 1 = .ok (.iload_n 1, 1) := by decide +kernel
theorem dX3_fail_2 : decode cX3_fail 2 = .ok (.putfield 32, 3) := by decide +kernel
theorem dX3_fail_5 : decode cX3_fail 5 = .ok (.iconst 0, 1) := by decide +kernel
theorem dX3_fail_6 : decode cX3_fail 6 = .ok (.ireturn, 1) := by decide +kernel
theorem dX3_isIn_0 : decode cX3_isIn 0 = .ok (.iload_n 0, 1) := by decide +kernel
theorem dX3_isIn_1 : decode cX3_isIn 1 = .ok (.iload_n 1, 1) := by decide +kernel
theorem dX3_isIn_2 : decode cX3_isIn 2 = .ok (.if_icmp .lt 12, 3) := by decide +kernel
theorem dX3_isIn_5 : decode cX3_isIn 5 = .ok (.iload_n 0, 1) := by decide +kernel
theorem dX3_isIn_6 : decode cX3_isIn 6 = .ok (.iload_n 2, 1) := by decide +kernel
theorem dX3_isIn_7 : decode cX3_isIn 7 = .ok (.if_icmp .gt 7, 3) := by decide +kernel
theorem dX3_isIn_10 : decode cX3_isIn 10 = .ok (.iconst 1, 1) := by decide +kernel
theorem dX3_isIn_11 : decode cX3_isIn 11 = .ok (.goto 4, 3) := by decide +kernel
theorem dX3_isIn_14 : decode cX3_isIn 14 = .ok (.iconst 0, 1) := by decide +kernel
theorem dX3_isIn_15 : decode cX3_isIn 15 = .ok (.ireturn, 1) := by decide +kernel
set_option maxRecDepth 20000 in
theorem ggX3_isString_X3_isIn : GoodIn wsX3_isString wsX3_isIn := goodIn_r _ [4] (by decide +kernel) (by decide +kernel)
set_option maxRecDepth 20000 in
theorem gX3_isString_X3_isIn : GoodIn wsX3_isString (va_wsS RX3 36 yX3_isIn wsX3_isIn) := goodIn_app (goodIn_of _ (by decide +kernel)) ggX3_isString_X3_isIn
theorem dX3_isString_0 : decode cX3_isString 0 = .ok (.iload_n 0, 1) := by decide +kernel
theorem dX3_isString_1 : decode cX3_isString 1 = .ok (.iconst 0, 1) := by decide +kernel
theorem dX3_isString_2 : decode cX3_isString 2 = .ok (.bipush 11, 2) := by decide +kernel
theorem dX3_isString_4 : decode cX3_isString 4 = .ok (.invokestatic 36, 3) := by decide +kernel
theorem dX3_isString_7 : decode cX3_isString 7 = .ok (.ireturn, 1) := by decide +kernel
theorem dX3_ha_0 : decode cX3_ha 0 = .ok (.aload_n 0, 1) := by decide +kernel
theorem dX3_ha_1 : decode cX3_ha 1 = .ok (.getfield 9, 3) := by decide +kernel
theorem dX3_ha_4 : decode cX3_ha 4 = .ok (.bipush 6, 2) := by decide +kernel
theorem dX3_ha_6 : decode cX3_ha 6 = .ok (.iload_n 1, 1) := by decide +kernel
theorem dX3_ha_7 : decode cX3_ha 7 = .ok (.imul, 1) := by decide +kernel
theorem dX3_ha_8 : decode cX3_ha 8 = .ok (.iload_n 2, 1) := by decide +kernel
theorem dX3_ha_9 : decode cX3_ha 9 = .ok (.iadd, 1) := by decide +kernel
theorem dX3_ha_10 : decode cX3_ha 10 = .ok (.iaload, 1) := by decide +kernel
theorem dX3_ha_11 : decode cX3_ha 11 = .ok (.ireturn, 1) := by decide +kernel
theorem dX3_put_0 : decode cX3_put 0 = .ok (.aload_n 0, 1) := by decide +kernel
theorem dX3_put_1 : decode cX3_put 1 = .ok (.getfield 9, 3) := by decide +kernel
theorem dX3_put_4 : decode cX3_put 4 = .ok (.bipush 6, 2) := by decide +kernel
theorem dX3_put_6 : decode cX3_put 6 = .ok (.iload_n 1, 1) := by decide +kernel
theorem dX3_put_7 : decode cX3_put 7 = .ok (.imul, 1) := by decide +kernel
theorem dX3_put_8 : decode cX3_put 8 = .ok (.iload_n 2, 1) := by decide +kernel
theorem dX3_put_9 : decode cX3_put 9 = .ok (.iadd, 1) := by decide +kernel
theorem dX3_put_10 : decode cX3_put 10 = .ok (.iload_n 3, 1) := by decide +kernel
theorem dX3_put_11 : decode cX3_put 11 = .ok (.iastore, 1) := by decide +kernel
theorem dX3_put_12 : decode cX3_put 12 = .ok (.return_, 1) := by decide +kernel
set_option maxRecDepth 20000 in
theorem ggX3_wedge_X3_isString : GoodIn wsX3_wedge wsX3_isString := goodIn_r _ [5, 6, 7, 4, 8] (by decide +kernel) (by decide +kernel)
set_option maxRecDepth 20000 in
theorem gX3_wedge_X3_isString : GoodIn wsX3_wedge (va_wsS RX3 40 yX3_isString wsX3_isString) := goodIn_app (goodIn_of _ (by decide +kernel)) ggX3_wedge_X3_isString
set_option maxRecDepth 20000 in
theorem ggX3_wedge_X3_ha : GoodIn wsX3_wedge wsX3_ha := goodIn_r _ [12, 13, 14, 15, 16, 17, 18, 19, 20, 21] (by decide +kernel) (by decide +kernel)
set_option maxRecDepth 20000 in
theorem gX3_wedge_X3_ha : GoodIn wsX3_wedge (wsV RX3 44 RX3 yX3_ha wsX3_ha) := goodIn_app (goodIn_of _ (by decide +kernel)) ggX3_wedge_X3_ha
theorem dX3_wedge_0 : decode cX3_wedge 0 = .ok (.iload_n 1, 1) := by decide +kernel
theorem dX3_wedge_1 : decode cX3_wedge 1 = .ok (.invokestatic 40, 3) := by decide +kernel
theorem dX3_wedge_4 : decode cX3_wedge 4 = .ok (.ifCond .eq 19, 3) := by decide +kernel
theorem dX3_wedge_7 : decode cX3_wedge 7 = .ok (.aload_n 0, 1) := by decide +kernel
theorem dX3_wedge_8 : decode cX3_wedge 8 = .ok (.iload_n 1, 1) := by decide +kernel
theorem dX3_wedge_9 : decode cX3_wedge 9 = .ok (.iconst 1, 1) := by decide +kernel
theorem dX3_wedge_10 : decode cX3_wedge 10 = .ok (.invokevirtual 44, 3) := by decide +kernel
theorem dX3_wedge_13 : decode cX3_wedge 13 = .ok (.aload_n 0, 1) := by decide +kernel
theorem dX3_wedge_14 : decode cX3_wedge 14 = .ok (.getfield 25, 3) := by decide +kernel
theorem dX3_wedge_17 : decode cX3_wedge 17 = .ok (.iload_n 1, 1) := by decide +kernel
theorem dX3_wedge_18 : decode cX3_wedge 18 = .ok (.iaload, 1) := by decide +kernel
theorem dX3_wedge_19 : decode cX3_wedge 19 = .ok (.iadd, 1) := by decide +kernel
theorem dX3_wedge_20 : decode cX3_wedge 20 = .ok (.goto 4, 3) := by decide +kernel
theorem dX3_wedge_23 : decode cX3_wedge 23 = .ok (.iconst 0, 1) := by decide +kernel
theorem dX3_wedge_24 : decode cX3_wedge 24 = .ok (.ireturn, 1) := by decide +kernel
set_option maxRecDepth 20000 in
theorem ggX3_tone_X3_ha : GoodIn wsX3_tone wsX3_ha := goodIn_r _ [6, 7, 19, 20, 21, 22, 23, 24, 25, 26] (by decide +kernel) (by decide +kernel)
set_option maxRecDepth 20000 in
theorem gX3_tone_X3_ha : GoodIn wsX3_tone (wsV RX3 44 RX3 yX3_ha wsX3_ha) := goodIn_app (goodIn_of _ (by decide +kernel)) ggX3_tone_X3_ha
set_option maxRecDepth 20000 in
theorem ggX3_tone_X3_wedge : GoodIn wsX3_tone wsX3_wedge := goodIn_r _ [11, 12, 13, 14, 5, 15, 16, 17, 18, 2, 3, 4, 6, 7, 19, 20, 21, 22, 23, 24, 25, 26] (by decide +kernel) (by decide +kernel)
set_option maxRecDepth 20000 in
theorem gX3_tone_X3_wedge : GoodIn wsX3_tone (wsV RX3 48 RX3 yX3_wedge wsX3_wedge) := goodIn_app (goodIn_of _ (by decide +kernel)) ggX3_tone_X3_wedge
theorem dX3_tone_0 : decode cX3_tone 0 = .ok (.aload_n 0, 1) := by decide +kernel
theorem dX3_tone_1 : decode cX3_tone 1 = .ok (.iload_n 1, 1) := by decide +kernel
theorem dX3_tone_2 : decode cX3_tone 2 = .ok (.iconst 4, 1) := by decide +kernel
theorem dX3_tone_3 : decode cX3_tone 3 = .ok (.invokevirtual 44, 3) := by decide +kernel
theorem dX3_tone_6 : decode cX3_tone 6 = .ok (.ifCond .ne 7, 3) := by decide +kernel
theorem dX3_tone_9 : decode cX3_tone 9 = .ok (.iconst 0, 1) := by decide +kernel
theorem dX3_tone_10 : decode cX3_tone 10 = .ok (.goto 50, 3) := by decide +kernel
theorem dX3_tone_13 : decode cX3_tone 13 = .ok (.aload_n 0, 1) := by decide +kernel
theorem dX3_tone_14 : decode cX3_tone 14 = .ok (.iload_n 1, 1) := by decide +kernel
theorem dX3_tone_15 : decode cX3_tone 15 = .ok (.iconst 0, 1) := by decide +kernel
theorem dX3_tone_16 : decode cX3_tone 16 = .ok (.invokevirtual 44, 3) := by decide +kernel
theorem dX3_tone_19 : decode cX3_tone 19 = .ok (.bipush 10, 2) := by decide +kernel
theorem dX3_tone_21 : decode cX3_tone 21 = .ok (.aload_n 0, 1) := by decide +kernel
theorem dX3_tone_22 : decode cX3_tone 22 = .ok (.iload_n 1, 1) := by decide +kernel
theorem dX3_tone_23 : decode cX3_tone 23 = .ok (.invokevirtual 48, 3) := by decide +kernel
theorem dX3_tone_26 : decode cX3_tone 26 = .ok (.imul, 1) := by decide +kernel
theorem dX3_tone_27 : decode cX3_tone 27 = .ok (.iadd, 1) := by decide +kernel
theorem dX3_tone_28 : decode cX3_tone 28 = .ok (.iconst 3, 1) := by decide +kernel
theorem dX3_tone_29 : decode cX3_tone 29 = .ok (.aload_n 0, 1) := by decide +kernel
theorem dX3_tone_30 : decode cX3_tone 30 = .ok (.iload_n 1, 1) := by decide +kernel
theorem dX3_tone_31 : decode cX3_tone 31 = .ok (.iconst 1, 1) := by decide +kernel
theorem dX3_tone_32 : decode cX3_tone 32 = .ok (.isub, 1) := by decide +kernel
theorem dX3_tone_33 : decode cX3_tone 33 = .ok (.invokevirtual 48, 3) := by decide +kernel
theorem dX3_tone_36 : decode cX3_tone 36 = .ok (.aload_n 0, 1) := by decide +kernel
theorem dX3_tone_37 : decode cX3_tone 37 = .ok (.iload_n 1, 1) := by decide +kernel
theorem dX3_tone_38 : decode cX3_tone 38 = .ok (.iconst 1, 1) := by decide +kernel
theorem dX3_tone_39 : decode cX3_tone 39 = .ok (.iadd, 1) := by decide +kernel
theorem dX3_tone_40 : decode cX3_tone 40 = .ok (.invokevirtual 48, 3) := by decide +kernel
theorem dX3_tone_43 : decode cX3_tone 43 = .ok (.iadd, 1) := by decide +kernel
theorem dX3_tone_44 : decode cX3_tone 44 = .ok (.imul, 1) := by decide +kernel
theorem dX3_tone_45 : decode cX3_tone 45 = .ok (.iadd, 1) := by decide +kernel
theorem dX3_tone_46 : decode cX3_tone 46 = .ok (.aload_n 0, 1) := by decide +kernel
theorem dX3_tone_47 : decode cX3_tone 47 = .ok (.iload_n 1, 1) := by decide +kernel
theorem dX3_tone_48 : decode cX3_tone 48 = .ok (.iconst 2, 1) := by decide +kernel
theorem dX3_tone_49 : decode cX3_tone 49 = .ok (.invokevirtual 44, 3) := by decide +kernel
theorem dX3_tone_52 : decode cX3_tone 52 = .ok (.iadd, 1) := by decide +kernel
theorem dX3_tone_53 : decode cX3_tone 53 = .ok (.aload_n 0, 1) := by decide +kernel
theorem dX3_tone_54 : decode cX3_tone 54 = .ok (.getfield 22, 3) := by decide +kernel
theorem dX3_tone_57 : decode cX3_tone 57 = .ok (.iconst 1, 1) := by decide +kernel
theorem dX3_tone_58 : decode cX3_tone 58 = .ok (.iaload, 1) := by decide +kernel
theorem dX3_tone_59 : decode cX3_tone 59 = .ok (.isub, 1) := by decide +kernel
theorem dX3_tone_60 : decode cX3_tone 60 = .ok (.ireturn, 1) := by decide +kernel
set_option maxRecDepth 20000 in
theorem ggX3_push_X3_isString : GoodIn wsX3_push wsX3_isString := goodIn_r _ [5, 6, 7, 4, 8] (by decide +kernel) (by decide +kernel)
set_option maxRecDepth 20000 in
theorem gX3_push_X3_isString : GoodIn wsX3_push (va_wsS RX3 40 yX3_isString wsX3_isString) := goodIn_app (goodIn_of _ (by decide +kernel)) ggX3_push_X3_isString
set_option maxRecDepth 20000 in
theorem ggX3_push_X3_fail : GoodIn wsX3_push wsX3_fail := goodIn_r _ [12, 1, 32, 33, 34, 35, 36, 37, 38, 39] (by decide +kernel) (by decide +kernel)
set_option maxRecDepth 20000 in
theorem gX3_push_X3_fail : GoodIn wsX3_push (wsV RX3 52 RX3 yX3_fail wsX3_fail) := goodIn_app (goodIn_of _ (by decide +kernel)) ggX3_push_X3_fail
set_option maxRecDepth 20000 in
theorem ggX3_push_X3_isIn : GoodIn wsX3_push wsX3_isIn := goodIn_r _ [8] (by decide +kernel) (by decide +kernel)
set_option maxRecDepth 20000 in
theorem gX3_push_X3_isIn : GoodIn wsX3_push (va_wsS RX3 36 yX3_isIn wsX3_isIn) := goodIn_app (goodIn_of _ (by decide +kernel)) ggX3_push_X3_isIn
set_option maxRecDepth 20000 in
theorem ggX3_push_X3_ha : GoodIn wsX3_push wsX3_ha := goodIn_r _ [16, 17, 32, 33, 34, 35, 36, 37, 38, 39] (by decide +kernel) (by decide +kernel)
set_option maxRecDepth 20000 in
theorem gX3_push_X3_ha : GoodIn wsX3_push (wsV RX3 44 RX3 yX3_ha wsX3_ha) := goodIn_app (goodIn_of _ (by decide +kernel)) ggX3_push_X3_ha
set_option maxRecDepth 20000 in
theorem ggX3_push_X3_put : GoodIn wsX3_push wsX3_put := goodIn_r _ [21, 17, 32, 33, 34, 35, 36, 37, 38, 39] (by decide +kernel) (by decide +kernel)
set_option maxRecDepth 20000 in
theorem gX3_push_X3_put : GoodIn wsX3_push (wsV RX3 28 RX3 yX3_put wsX3_put) := goodIn_app (goodIn_of _ (by decide +kernel)) ggX3_push_X3_put
set_option maxRecDepth 20000 in
theorem ggX3_push_X3_tone : GoodIn wsX3_push wsX3_tone := goodIn_r _ [25, 26, 13, 14, 15, 4, 16, 17, 27, 28, 29, 30, 31, 2, 3, 5, 6, 7, 8, 32, 33, 34, 35, 36, 37, 38, 39] (by decide +kernel) (by decide +kernel)
set_option maxRecDepth 20000 in
theorem gX3_push_X3_tone : GoodIn wsX3_push (wsV RX3 55 RX3 yX3_tone wsX3_tone) := goodIn_app (goodIn_of _ (by decide +kernel)) ggX3_push_X3_tone
theorem dX3_push_0 : decode cX3_push 0 = .ok (.aload_n 0, 1) := by decide +kernel
theorem dX3_push_1 : decode cX3_push 1 = .ok (.iconst 0, 1) := by decide +kernel
theorem dX3_push_2 : decode cX3_push 2 = .ok (.putfield 32, 3) := by decide +kernel
theorem dX3_push_5 : decode cX3_push 5 = .ok (.iload_n 1, 1) := by decide +kernel
theorem dX3_push_6 : decode cX3_push 6 = .ok (.invokestatic 40, 3) := by decide +kernel
theorem dX3_push_9 : decode cX3_push 9 = .ok (.ifCond .ne 9, 3) := by decide +kernel
theorem dX3_push_12 : decode cX3_push 12 = .ok (.aload_n 0, 1) := by decide +kernel
theorem dX3_push_13 : decode cX3_push 13 = .ok (.iconst 1, 1) := by decide +kernel
theorem dX3_push_14 : decode cX3_push 14 = .ok (.invokevirtual 52, 3) := by decide +kernel
theorem dX3_push_17 : decode cX3_push 17 = .ok (.ireturn, 1) := by decide +kernel
theorem dX3_push_18 : decode cX3_push 18 = .ok (.iload_n 2, 1) := by decide +kernel
theorem dX3_push_19 : decode cX3_push 19 = .ok (.ifCond .eq 14, 3) := by decide +kernel
theorem dX3_push_22 : decode cX3_push 22 = .ok (.iload_n 2, 1) := by decide +kernel
theorem dX3_push_23 : decode cX3_push 23 = .ok (.bipush (-20), 2) := by decide +kernel
theorem dX3_push_25 : decode cX3_push 25 = .ok (.bipush 20, 2) := by decide +kernel
theorem dX3_push_27 : decode cX3_push 27 = .ok (.invokestatic 36, 3) := by decide +kernel
theorem dX3_push_30 : decode cX3_push 30 = .ok (.ifCond .ne 9, 3) := by decide +kernel
theorem dX3_push_33 : decode cX3_push 33 = .ok (.aload_n 0, 1) := by decide +kernel
theorem dX3_push_34 : decode cX3_push 34 = .ok (.iconst 2, 1) := by decide +kernel
theorem dX3_push_35 : decode cX3_push 35 = .ok (.invokevirtual 52, 3) := by decide +kernel
theorem dX3_push_38 : decode cX3_push 38 = .ok (.ireturn, 1) := by decide +kernel
theorem dX3_push_39 : decode cX3_push 39 = .ok (.aload_n 0, 1) := by decide +kernel
theorem dX3_push_40 : decode cX3_push 40 = .ok (.iload_n 1, 1) := by decide +kernel
theorem dX3_push_41 : decode cX3_push 41 = .ok (.iconst 1, 1) := by decide +kernel
theorem dX3_push_42 : decode cX3_push 42 = .ok (.invokevirtual 44, 3) := by decide +kernel
theorem dX3_push_45 : decode cX3_push 45 = .ok (.iload_n 2, 1) := by decide +kernel
theorem dX3_push_46 : decode cX3_push 46 = .ok (.iadd, 1) := by decide +kernel
theorem dX3_push_47 : decode cX3_push 47 = .ok (.iconst 0, 1) := by decide +kernel
theorem dX3_push_48 : decode cX3_push 48 = .ok (.bipush 20, 2) := by decide +kernel
theorem dX3_push_50 : decode cX3_push 50 = .ok (.invokestatic 36, 3) := by decide +kernel
theorem dX3_push_53 : decode cX3_push 53 = .ok (.ifCond .ne 9, 3) := by decide +kernel
theorem dX3_push_56 : decode cX3_push 56 = .ok (.aload_n 0, 1) := by decide +kernel
theorem dX3_push_57 : decode cX3_push 57 = .ok (.iconst 3, 1) := by decide +kernel
theorem dX3_push_58 : decode cX3_push 58 = .ok (.invokevirtual 52, 3) := by decide +kernel
theorem dX3_push_61 : decode cX3_push 61 = .ok (.ireturn, 1) := by decide +kernel
theorem dX3_push_62 : decode cX3_push 62 = .ok (.aload_n 0, 1) := by decide +kernel
theorem dX3_push_63 : decode cX3_push 63 = .ok (.iload_n 1, 1) := by decide +kernel
theorem dX3_push_64 : decode cX3_push 64 = .ok (.iconst 1, 1) := by decide +kernel
theorem dX3_push_65 : decode cX3_push 65 = .ok (.aload_n 0, 1) := by decide +kernel
theorem dX3_push_66 : decode cX3_push 66 = .ok (.iload_n 1, 1) := by decide +kernel
theorem dX3_push_67 : decode cX3_push 67 = .ok (.iconst 1, 1) := by decide +kernel
theorem dX3_push_68 : decode cX3_push 68 = .ok (.invokevirtual 44, 3) := by decide +kernel
theorem dX3_push_71 : decode cX3_push 71 = .ok (.iload_n 2, 1) := by decide +kernel
theorem dX3_push_72 : decode cX3_push 72 = .ok (.iadd, 1) := by decide +kernel
theorem dX3_push_73 : decode cX3_push 73 = .ok (.invokevirtual 28, 3) := by decide +kernel
theorem dX3_push_76 : decode cX3_push 76 = .ok (.aload_n 0, 1) := by decide +kernel
theorem dX3_push_77 : decode cX3_push 77 = .ok (.iload_n 1, 1) := by decide +kernel
theorem dX3_push_78 : decode cX3_push 78 = .ok (.invokevirtual 55, 3) := by decide +kernel
theorem dX3_push_81 : decode cX3_push 81 = .ok (.ireturn, 1) := by decide +kernel
set_option maxRecDepth 20000 in
theorem ggX3_draw_X3_isString : GoodIn wsX3_draw wsX3_isString := goodIn_r _ [5, 6, 7, 4, 8] (by decide +kernel) (by decide +kernel)
set_option maxRecDepth 20000 in
theorem gX3_draw_X3_isString : GoodIn wsX3_draw (va_wsS RX3 40 yX3_isString wsX3_isString) := goodIn_app (goodIn_of _ (by decide +kernel)) ggX3_draw_X3_isString
set_option maxRecDepth 20000 in
theorem ggX3_draw_X3_fail : GoodIn wsX3_draw wsX3_fail := goodIn_r _ [12, 1, 32, 33, 34, 35, 36, 37, 38, 39] (by decide +kernel) (by decide +kernel)
set_option maxRecDepth 20000 in
theorem gX3_draw_X3_fail : GoodIn wsX3_draw (wsV RX3 52 RX3 yX3_fail wsX3_fail) := goodIn_app (goodIn_of _ (by decide +kernel)) ggX3_draw_X3_fail
set_option maxRecDepth 20000 in
theorem ggX3_draw_X3_isIn : GoodIn wsX3_draw wsX3_isIn := goodIn_r _ [8] (by decide +kernel) (by decide +kernel)
set_option maxRecDepth 20000 in
theorem gX3_draw_X3_isIn : GoodIn wsX3_draw (va_wsS RX3 36 yX3_isIn wsX3_isIn) := goodIn_app (goodIn_of _ (by decide +kernel)) ggX3_draw_X3_isIn
set_option maxRecDepth 20000 in
theorem ggX3_draw_X3_put : GoodIn wsX3_draw wsX3_put := goodIn_r _ [16, 17, 32, 33, 34, 35, 36, 37, 38, 39] (by decide +kernel) (by decide +kernel)
set_option maxRecDepth 20000 in
theorem gX3_draw_X3_put : GoodIn wsX3_draw (wsV RX3 28 RX3 yX3_put wsX3_put) := goodIn_app (goodIn_of _ (by decide +kernel)) ggX3_draw_X3_put
set_option maxRecDepth 20000 in
theorem ggX3_draw_X3_tone : GoodIn wsX3_draw wsX3_tone := goodIn_r _ [21, 22, 23, 24, 25, 4, 26, 17, 27, 28, 29, 30, 31, 2, 3, 5, 6, 7, 8, 32, 33, 34, 35, 36, 37, 38, 39] (by decide +kernel) (by decide +kernel)
set_option maxRecDepth 20000 in
theorem gX3_draw_X3_tone : GoodIn wsX3_draw (wsV RX3 55 RX3 yX3_tone wsX3_tone) := goodIn_app (goodIn_of _ (by decide +kernel)) ggX3_draw_X3_tone
theorem dX3_draw_0 : decode cX3_draw 0 = .ok (.aload_n 0, 1) := by decide +kernel
theorem dX3_draw_1 : decode cX3_draw 1 = .ok (.iconst 0, 1) := by decide +kernel
theorem dX3_draw_2 : decode cX3_draw 2 = .ok (.putfield 32, 3) := by decide +kernel
theorem dX3_draw_5 : decode cX3_draw 5 = .ok (.iload_n 1, 1) := by decide +kernel
theorem dX3_draw_6 : decode cX3_draw 6 = .ok (.invokestatic 40, 3) := by decide +kernel
theorem dX3_draw_9 : decode cX3_draw 9 = .ok (.ifCond .ne 9, 3) := by decide +kernel
theorem dX3_draw_12 : decode cX3_draw 12 = .ok (.aload_n 0, 1) := by decide +kernel
theorem dX3_draw_13 : decode cX3_draw 13 = .ok (.iconst 1, 1) := by decide +kernel
theorem dX3_draw_14 : decode cX3_draw 14 = .ok (.invokevirtual 52, 3) := by decide +kernel
theorem dX3_draw_17 : decode cX3_draw 17 = .ok (.ireturn, 1) := by decide +kernel
theorem dX3_draw_18 : decode cX3_draw 18 = .ok (.iload_n 2, 1) := by decide +kernel
theorem dX3_draw_19 : decode cX3_draw 19 = .ok (.bipush 100, 2) := by decide +kernel
theorem dX3_draw_21 : decode cX3_draw 21 = .ok (.sipush 900, 3) := by decide +kernel
theorem dX3_draw_24 : decode cX3_draw 24 = .ok (.invokestatic 36, 3) := by decide +kernel
theorem dX3_draw_27 : decode cX3_draw 27 = .ok (.ifCond .ne 9, 3) := by decide +kernel
theorem dX3_draw_30 : decode cX3_draw 30 = .ok (.aload_n 0, 1) := by decide +kernel
theorem dX3_draw_31 : decode cX3_draw 31 = .ok (.iconst 2, 1) := by decide +kernel
theorem dX3_draw_32 : decode cX3_draw 32 = .ok (.invokevirtual 52, 3) := by decide +kernel
theorem dX3_draw_35 : decode cX3_draw 35 = .ok (.ireturn, 1) := by decide +kernel
theorem dX3_draw_36 : decode cX3_draw 36 = .ok (.aload_n 0, 1) := by decide +kernel
theorem dX3_draw_37 : decode cX3_draw 37 = .ok (.iload_n 1, 1) := by decide +kernel
theorem dX3_draw_38 : decode cX3_draw 38 = .ok (.iconst 0, 1) := by decide +kernel
theorem dX3_draw_39 : decode cX3_draw 39 = .ok (.iload_n 2, 1) := by decide +kernel
theorem dX3_draw_40 : decode cX3_draw 40 = .ok (.invokevirtual 28, 3) := by decide +kernel
theorem dX3_draw_43 : decode cX3_draw 43 = .ok (.aload_n 0, 1) := by decide +kernel
theorem dX3_draw_44 : decode cX3_draw 44 = .ok (.iload_n 1, 1) := by decide +kernel
theorem dX3_draw_45 : decode cX3_draw 45 = .ok (.iconst 4, 1) := by decide +kernel
theorem dX3_draw_46 : decode cX3_draw 46 = .ok (.iconst 1, 1) := by decide +kernel
theorem dX3_draw_47 : decode cX3_draw 47 = .ok (.invokevirtual 28, 3) := by decide +kernel
theorem dX3_draw_50 : decode cX3_draw 50 = .ok (.aload_n 0, 1) := by decide +kernel
theorem dX3_draw_51 : decode cX3_draw 51 = .ok (.iload_n 1, 1) := by decide +kernel
theorem dX3_draw_52 : decode cX3_draw 52 = .ok (.iconst 2, 1) := by decide +kernel
theorem dX3_draw_53 : decode cX3_draw 53 = .ok (.iconst 0, 1) := by decide +kernel
theorem dX3_draw_54 : decode cX3_draw 54 = .ok (.invokevirtual 28, 3) := by decide +kernel
theorem dX3_draw_57 : decode cX3_draw 57 = .ok (.aload_n 0, 1) := by decide +kernel
theorem dX3_draw_58 : decode cX3_draw 58 = .ok (.iload_n 1, 1) := by decide +kernel
theorem dX3_draw_59 : decode cX3_draw 59 = .ok (.iconst 3, 1) := by decide +kernel
theorem dX3_draw_60 : decode cX3_draw 60 = .ok (.iconst 0, 1) := by decide +kernel
theorem dX3_draw_61 : decode cX3_draw 61 = .ok (.invokevirtual 28, 3) := by decide +kernel
theorem dX3_draw_64 : decode cX3_draw 64 = .ok (.aload_n 0, 1) := by decide +kernel
theorem dX3_draw_65 : decode cX3_draw 65 = .ok (.iload_n 1, 1) := by decide +kernel
theorem dX3_draw_66 : decode cX3_draw 66 = .ok (.invokevirtual 55, 3) := by decide +kernel
theorem dX3_draw_69 : decode cX3_draw 69 = .ok (.ireturn, 1) := by decide +kernel
set_option maxRecDepth 20000 in
theorem ggX3_setWeather_X3_isIn : GoodIn wsX3_setWeather wsX3_isIn := goodIn_r _ [7] (by decide +kernel) (by decide +kernel)
set_option maxRecDepth 20000 in
theorem gX3_setWeather_X3_isIn : GoodIn wsX3_setWeather (va_wsS RX3 36 yX3_isIn wsX3_isIn) := goodIn_app (goodIn_of _ (by decide +kernel)) ggX3_setWeather_X3_isIn
set_option maxRecDepth 20000 in
theorem ggX3_setWeather_X3_fail : GoodIn wsX3_setWeather wsX3_fail := goodIn_r _ [11, 1, 12, 13, 14, 15, 16, 17, 18, 19] (by decide +kernel) (by decide +kernel)
set_option maxRecDepth 20000 in
theorem gX3_setWeather_X3_fail : GoodIn wsX3_setWeather (wsV RX3 52 RX3 yX3_fail wsX3_fail) := goodIn_app (goodIn_of _ (by decide +kernel)) ggX3_setWeather_X3_fail
theorem dX3_setWeather_0 : decode cX3_setWeather 0 = .ok (.aload_n 0, 1) := by decide +kernel
theorem dX3_setWeather_1 : decode cX3_setWeather 1 = .ok (.iconst 0, 1) := by decide +kernel
theorem dX3_setWeather_2 : decode cX3_setWeather 2 = .ok (.putfield 32, 3) := by decide +kernel
theorem dX3_setWeather_5 : decode cX3_setWeather 5 = .ok (.iload_n 1, 1) := by decide +kernel
theorem dX3_setWeather_6 : decode cX3_setWeather 6 = .ok (.iconst 0, 1) := by decide +kernel
theorem dX3_setWeather_7 : decode cX3_setWeather 7 = .ok (.bipush 11, 2) := by decide +kernel
theorem dX3_setWeather_9 : decode cX3_setWeather 9 = .ok (.invokestatic 36, 3) := by decide +kernel
theorem dX3_setWeather_12 : decode cX3_setWeather 12 = .ok (.ifCond .ne 9, 3) := by decide +kernel
theorem dX3_setWeather_15 : decode cX3_setWeather 15 = .ok (.aload_n 0, 1) := by decide +kernel
theorem dX3_setWeather_16 : decode cX3_setWeather 16 = .ok (.iconst 1, 1) := by decide +kernel
theorem dX3_setWeather_17 : decode cX3_setWeather 17 = .ok (.invokevirtual 52, 3) := by decide +kernel
theorem dX3_setWeather_20 : decode cX3_setWeather 20 = .ok (.ireturn, 1) := by decide +kernel
theorem dX3_setWeather_21 : decode cX3_setWeather 21 = .ok (.iload_n 2, 1) := by decide +kernel
theorem dX3_setWeather_22 : decode cX3_setWeather 22 = .ok (.iconst 0, 1) := by decide +kernel
theorem dX3_setWeather_23 : decode cX3_setWeather 23 = .ok (.bipush 20, 2) := by decide +kernel
theorem dX3_setWeather_25 : decode cX3_setWeather 25 = .ok (.invokestatic 36, 3) := by decide +kernel
theorem dX3_setWeather_28 : decode cX3_setWeather 28 = .ok (.ifCond .eq 13, 3) := by decide +kernel
theorem dX3_setWeather_31 : decode cX3_setWeather 31 = .ok (.iload_n 3, 1) := by decide +kernel
theorem dX3_setWeather_32 : decode cX3_setWeather 32 = .ok (.iconst 0, 1) := by decide +kernel
theorem dX3_setWeather_33 : decode cX3_setWeather 33 = .ok (.bipush 9, 2) := by decide +kernel
theorem dX3_setWeather_35 : decode cX3_setWeather 35 = .ok (.invokestatic 36, 3) := by decide +kernel
theorem dX3_setWeather_38 : decode cX3_setWeather 38 = .ok (.ifCond .ne 9, 3) := by decide +kernel
theorem dX3_setWeather_41 : decode cX3_setWeather 41 = .ok (.aload_n 0, 1) := by decide +kernel
theorem dX3_setWeather_42 : decode cX3_setWeather 42 = .ok (.iconst 2, 1) := by decide +kernel
theorem dX3_setWeather_43 : decode cX3_setWeather 43 = .ok (.invokevirtual 52, 3) := by decide +kernel
theorem dX3_setWeather_46 : decode cX3_setWeather 46 = .ok (.ireturn, 1) := by decide +kernel
theorem dX3_setWeather_47 : decode cX3_setWeather 47 = .ok (.bipush 10, 2) := by decide +kernel
theorem dX3_setWeather_49 : decode cX3_setWeather 49 = .ok (.aload_n 0, 1) := by decide +kernel
theorem dX3_setWeather_50 : decode cX3_setWeather 50 = .ok (.getfield 16, 3) := by decide +kernel
theorem dX3_setWeather_53 : decode cX3_setWeather 53 = .ok (.iload_n 1, 1) := by decide +kernel
theorem dX3_setWeather_54 : decode cX3_setWeather 54 = .ok (.iaload, 1) := by decide +kernel
theorem dX3_setWeather_55 : decode cX3_setWeather 55 = .ok (.imul, 1) := by decide +kernel
theorem dX3_setWeather_56 : decode cX3_setWeather 56 = .ok (.aload_n 0, 1) := by decide +kernel
theorem dX3_setWeather_57 : decode cX3_setWeather 57 = .ok (.getfield 19, 3) := by decide +kernel
theorem dX3_setWeather_60 : decode cX3_setWeather 60 = .ok (.iload_n 1, 1) := by decide +kernel
theorem dX3_setWeather_61 : decode cX3_setWeather 61 = .ok (.iaload, 1) := by decide +kernel
theorem dX3_setWeather_62 : decode cX3_setWeather 62 = .ok (.iadd, 1) := by decide +kernel
theorem dX3_setWeather_63 : decode cX3_setWeather 63 = .ok (.istore 4, 2) := by decide +kernel
theorem dX3_setWeather_65 : decode cX3_setWeather 65 = .ok (.aload_n 0, 1) := by decide +kernel
theorem dX3_setWeather_66 : decode cX3_setWeather 66 = .ok (.getfield 16, 3) := by decide +kernel
theorem dX3_setWeather_69 : decode cX3_setWeather 69 = .ok (.iload_n 1, 1) := by decide +kernel
theorem dX3_setWeather_70 : decode cX3_setWeather 70 = .ok (.iload_n 2, 1) := by decide +kernel
theorem dX3_setWeather_71 : decode cX3_setWeather 71 = .ok (.iastore, 1) := by decide +kernel
theorem dX3_setWeather_72 : decode cX3_setWeather 72 = .ok (.aload_n 0, 1) := by decide +kernel
theorem dX3_setWeather_73 : decode cX3_setWeather 73 = .ok (.getfield 19, 3) := by decide +kernel
theorem dX3_setWeather_76 : decode cX3_setWeather 76 = .ok (.iload_n 1, 1) := by decide +kernel
theorem dX3_setWeather_77 : decode cX3_setWeather 77 = .ok (.iload_n 3, 1) := by decide +kernel
theorem dX3_setWeather_78 : decode cX3_setWeather 78 = .ok (.iastore, 1) := by decide +kernel
theorem dX3_setWeather_79 : decode cX3_setWeather 79 = .ok (.iload 4, 2) := by decide +kernel
theorem dX3_setWeather_81 : decode cX3_setWeather 81 = .ok (.ireturn, 1) := by decide +kernel
set_option maxRecDepth 20000 in
theorem ggX3_stringTold_X3_ha : GoodIn wsX3_stringTold wsX3_ha := goodIn_r _ [5, 6, 23, 24, 25, 26, 27, 28, 29, 30] (by decide +kernel) (by decide +kernel)
set_option maxRecDepth 20000 in
theorem gX3_stringTold_X3_ha : GoodIn wsX3_stringTold (wsV RX3 44 RX3 yX3_ha wsX3_ha) := goodIn_app (goodIn_of _ (by decide +kernel)) ggX3_stringTold_X3_ha
set_option maxRecDepth 20000 in
theorem ggX3_stringTold_X3_tone : GoodIn wsX3_stringTold wsX3_tone := goodIn_r _ [10, 11, 1, 2, 3, 4, 5, 6, 12, 13, 14, 15, 16, 17, 18, 19, 20, 21, 22, 23, 24, 25, 26, 27, 28, 29, 30] (by decide +kernel) (by decide +kernel)
set_option maxRecDepth 20000 in
theorem gX3_stringTold_X3_tone : GoodIn wsX3_stringTold (wsV RX3 55 RX3 yX3_tone wsX3_tone) := goodIn_app (goodIn_of _ (by decide +kernel)) ggX3_stringTold_X3_tone
theorem dX3_stringTold_0 : decode cX3_stringTold 0 = .ok (.iload_n 2, 1) := by decide +kernel
theorem dX3_stringTold_1 : decode cX3_stringTold 1 = .ok (.iconst 5, 1) := by decide +kernel
theorem dX3_stringTold_2 : decode cX3_stringTold 2 = .ok (.if_icmp .ge 12, 3) := by decide +kernel
theorem dX3_stringTold_5 : decode cX3_stringTold 5 = .ok (.aload_n 0, 1) := by decide +kernel
theorem dX3_stringTold_6 : decode cX3_stringTold 6 = .ok (.iload_n 1, 1) := by decide +kernel
theorem dX3_stringTold_7 : decode cX3_stringTold 7 = .ok (.iload_n 2, 1) := by decide +kernel
theorem dX3_stringTold_8 : decode cX3_stringTold 8 = .ok (.invokevirtual 44, 3) := by decide +kernel
theorem dX3_stringTold_11 : decode cX3_stringTold 11 = .ok (.goto 22, 3) := by decide +kernel
theorem dX3_stringTold_14 : decode cX3_stringTold 14 = .ok (.iload_n 2, 1) := by decide +kernel
theorem dX3_stringTold_15 : decode cX3_stringTold 15 = .ok (.iconst 5, 1) := by decide +kernel
theorem dX3_stringTold_16 : decode cX3_stringTold 16 = .ok (.if_icmp .ne 11, 3) := by decide +kernel
theorem dX3_stringTold_19 : decode cX3_stringTold 19 = .ok (.aload_n 0, 1) := by decide +kernel
theorem dX3_stringTold_20 : decode cX3_stringTold 20 = .ok (.iload_n 1, 1) := by decide +kernel
theorem dX3_stringTold_21 : decode cX3_stringTold 21 = .ok (.invokevirtual 55, 3) := by decide +kernel
theorem dX3_stringTold_24 : decode cX3_stringTold 24 = .ok (.goto 9, 3) := by decide +kernel
theorem dX3_stringTold_27 : decode cX3_stringTold 27 = .ok (.aload_n 0, 1) := by decide +kernel
theorem dX3_stringTold_28 : decode cX3_stringTold 28 = .ok (.iload_n 1, 1) := by decide +kernel
theorem dX3_stringTold_29 : decode cX3_stringTold 29 = .ok (.iconst 5, 1) := by decide +kernel
theorem dX3_stringTold_30 : decode cX3_stringTold 30 = .ok (.invokevirtual 44, 3) := by decide +kernel
theorem dX3_stringTold_33 : decode cX3_stringTold 33 = .ok (.ireturn, 1) := by decide +kernel
set_option maxRecDepth 20000 in
theorem ggX3_string_X3_isString : GoodIn wsX3_string wsX3_isString := goodIn_r _ [5, 6, 7, 4, 8] (by decide +kernel) (by decide +kernel)
set_option maxRecDepth 20000 in
theorem gX3_string_X3_isString : GoodIn wsX3_string (va_wsS RX3 40 yX3_isString wsX3_isString) := goodIn_app (goodIn_of _ (by decide +kernel)) ggX3_string_X3_isString
set_option maxRecDepth 20000 in
theorem ggX3_string_X3_isIn : GoodIn wsX3_string wsX3_isIn := goodIn_r _ [8] (by decide +kernel) (by decide +kernel)
set_option maxRecDepth 20000 in
theorem gX3_string_X3_isIn : GoodIn wsX3_string (va_wsS RX3 36 yX3_isIn wsX3_isIn) := goodIn_app (goodIn_of _ (by decide +kernel)) ggX3_string_X3_isIn
set_option maxRecDepth 20000 in
theorem ggX3_string_X3_stringTold : GoodIn wsX3_string wsX3_stringTold := goodIn_r _ [12, 13, 14, 15, 4, 16, 17, 18, 19, 20, 21, 22, 23, 24, 25, 26, 27, 2, 3, 5, 6, 7, 8, 32, 33, 34, 35, 36, 37, 38, 39] (by decide +kernel) (by decide +kernel)
set_option maxRecDepth 20000 in
theorem gX3_string_X3_stringTold : GoodIn wsX3_string (wsV RX3 58 RX3 yX3_stringTold wsX3_stringTold) := goodIn_app (goodIn_of _ (by decide +kernel)) ggX3_string_X3_stringTold
set_option maxRecDepth 20000 in
theorem ggX3_string_X3_fail : GoodIn wsX3_string wsX3_fail := goodIn_r _ [31, 1, 32, 33, 34, 35, 36, 37, 38, 39] (by decide +kernel) (by decide +kernel)
set_option maxRecDepth 20000 in
theorem gX3_string_X3_fail : GoodIn wsX3_string (wsV RX3 52 RX3 yX3_fail wsX3_fail) := goodIn_app (goodIn_of _ (by decide +kernel)) ggX3_string_X3_fail
theorem dX3_string_0 : decode cX3_string 0 = .ok (.aload_n 0, 1) := by decide +kernel
theorem dX3_string_1 : decode cX3_string 1 = .ok (.iconst 0, 1) := by decide +kernel
theorem dX3_string_2 : decode cX3_string 2 = .ok (.putfield 32, 3) := by decide +kernel
theorem dX3_string_5 : decode cX3_string 5 = .ok (.iload_n 1, 1) := by decide +kernel
theorem dX3_string_6 : decode cX3_string 6 = .ok (.invokestatic 40, 3) := by decide +kernel
theorem dX3_string_9 : decode cX3_string 9 = .ok (.ifCond .eq 22, 3) := by decide +kernel
theorem dX3_string_12 : decode cX3_string 12 = .ok (.iload_n 2, 1) := by decide +kernel
theorem dX3_string_13 : decode cX3_string 13 = .ok (.iconst 0, 1) := by decide +kernel
theorem dX3_string_14 : decode cX3_string 14 = .ok (.bipush 6, 2) := by decide +kernel
theorem dX3_string_16 : decode cX3_string 16 = .ok (.invokestatic 36, 3) := by decide +kernel
theorem dX3_string_19 : decode cX3_string 19 = .ok (.ifCond .eq 12, 3) := by decide +kernel
theorem dX3_string_22 : decode cX3_string 22 = .ok (.aload_n 0, 1) := by decide +kernel
theorem dX3_string_23 : decode cX3_string 23 = .ok (.iload_n 1, 1) := by decide +kernel
theorem dX3_string_24 : decode cX3_string 24 = .ok (.iload_n 2, 1) := by decide +kernel
theorem dX3_string_25 : decode cX3_string 25 = .ok (.invokevirtual 58, 3) := by decide +kernel
theorem dX3_string_28 : decode cX3_string 28 = .ok (.goto 8, 3) := by decide +kernel
theorem dX3_string_31 : decode cX3_string 31 = .ok (.aload_n 0, 1) := by decide +kernel
theorem dX3_string_32 : decode cX3_string 32 = .ok (.iconst 1, 1) := by decide +kernel
theorem dX3_string_33 : decode cX3_string 33 = .ok (.invokevirtual 52, 3) := by decide +kernel
theorem dX3_string_36 : decode cX3_string 36 = .ok (.ireturn, 1) := by decide +kernel
set_option maxRecDepth 20000 in
theorem ggX3_moves_X3_isString : GoodIn wsX3_moves wsX3_isString := goodIn_r _ [6, 7, 8, 5, 9] (by decide +kernel) (by decide +kernel)
set_option maxRecDepth 20000 in
theorem gX3_moves_X3_isString : GoodIn wsX3_moves (va_wsS RX3 40 yX3_isString wsX3_isString) := goodIn_app (goodIn_of _ (by decide +kernel)) ggX3_moves_X3_isString
set_option maxRecDepth 20000 in
theorem ggX3_moves_X3_fail : GoodIn wsX3_moves wsX3_fail := goodIn_r _ [13, 1, 28, 29, 30, 31, 32, 33, 34, 35] (by decide +kernel) (by decide +kernel)
set_option maxRecDepth 20000 in
theorem gX3_moves_X3_fail : GoodIn wsX3_moves (wsV RX3 52 RX3 yX3_fail wsX3_fail) := goodIn_app (goodIn_of _ (by decide +kernel)) ggX3_moves_X3_fail
set_option maxRecDepth 20000 in
theorem ggX3_moves_X3_isIn : GoodIn wsX3_moves wsX3_isIn := goodIn_r _ [9] (by decide +kernel) (by decide +kernel)
set_option maxRecDepth 20000 in
theorem gX3_moves_X3_isIn : GoodIn wsX3_moves (va_wsS RX3 36 yX3_isIn wsX3_isIn) := goodIn_app (goodIn_of _ (by decide +kernel)) ggX3_moves_X3_isIn
set_option maxRecDepth 20000 in
theorem ggX3_moves_X3_tone : GoodIn wsX3_moves wsX3_tone := goodIn_r _ [17, 18, 19, 20, 21, 5, 22, 23, 24, 25, 26, 27, 2, 3, 4, 6, 7, 8, 9, 28, 29, 30, 31, 32, 33, 34, 35] (by decide +kernel) (by decide +kernel)
set_option maxRecDepth 20000 in
theorem gX3_moves_X3_tone : GoodIn wsX3_moves (wsV RX3 55 RX3 yX3_tone wsX3_tone) := goodIn_app (goodIn_of _ (by decide +kernel)) ggX3_moves_X3_tone
theorem dX3_moves_0 : decode cX3_moves 0 = .ok (.aload_n 0, 1) := by decide +kernel
theorem dX3_moves_1 : decode cX3_moves 1 = .ok (.iconst 0, 1) := by decide +kernel
theorem dX3_moves_2 : decode cX3_moves 2 = .ok (.putfield 32, 3) := by decide +kernel
theorem dX3_moves_5 : decode cX3_moves 5 = .ok (.iload_n 1, 1) := by decide +kernel
theorem dX3_moves_6 : decode cX3_moves 6 = .ok (.invokestatic 40, 3) := by decide +kernel
theorem dX3_moves_9 : decode cX3_moves 9 = .ok (.ifCond .eq 10, 3) := by decide +kernel
theorem dX3_moves_12 : decode cX3_moves 12 = .ok (.iload_n 3, 1) := by decide +kernel
theorem dX3_moves_13 : decode cX3_moves 13 = .ok (.invokestatic 40, 3) := by decide +kernel
theorem dX3_moves_16 : decode cX3_moves 16 = .ok (.ifCond .ne 9, 3) := by decide +kernel
theorem dX3_moves_19 : decode cX3_moves 19 = .ok (.aload_n 0, 1) := by decide +kernel
theorem dX3_moves_20 : decode cX3_moves 20 = .ok (.iconst 1, 1) := by decide +kernel
theorem dX3_moves_21 : decode cX3_moves 21 = .ok (.invokevirtual 52, 3) := by decide +kernel
theorem dX3_moves_24 : decode cX3_moves 24 = .ok (.ireturn, 1) := by decide +kernel
theorem dX3_moves_25 : decode cX3_moves 25 = .ok (.iload_n 2, 1) := by decide +kernel
theorem dX3_moves_26 : decode cX3_moves 26 = .ok (.bipush (-20), 2) := by decide +kernel
theorem dX3_moves_28 : decode cX3_moves 28 = .ok (.bipush 20, 2) := by decide +kernel
theorem dX3_moves_30 : decode cX3_moves 30 = .ok (.invokestatic 36, 3) := by decide +kernel
theorem dX3_moves_33 : decode cX3_moves 33 = .ok (.ifCond .ne 9, 3) := by decide +kernel
theorem dX3_moves_36 : decode cX3_moves 36 = .ok (.aload_n 0, 1) := by decide +kernel
theorem dX3_moves_37 : decode cX3_moves 37 = .ok (.iconst 2, 1) := by decide +kernel
theorem dX3_moves_38 : decode cX3_moves 38 = .ok (.invokevirtual 52, 3) := by decide +kernel
theorem dX3_moves_41 : decode cX3_moves 41 = .ok (.ireturn, 1) := by decide +kernel
theorem dX3_moves_42 : decode cX3_moves 42 = .ok (.aload_n 0, 1) := by decide +kernel
theorem dX3_moves_43 : decode cX3_moves 43 = .ok (.iload_n 3, 1) := by decide +kernel
theorem dX3_moves_44 : decode cX3_moves 44 = .ok (.invokevirtual 55, 3) := by decide +kernel
theorem dX3_moves_47 : decode cX3_moves 47 = .ok (.istore 4, 2) := by decide +kernel
theorem dX3_moves_49 : decode cX3_moves 49 = .ok (.aload_n 0, 1) := by decide +kernel
theorem dX3_moves_50 : decode cX3_moves 50 = .ok (.getfield 25, 3) := by decide +kernel
theorem dX3_moves_53 : decode cX3_moves 53 = .ok (.iload_n 1, 1) := by decide +kernel
theorem dX3_moves_54 : decode cX3_moves 54 = .ok (.iload_n 2, 1) := by decide +kernel
theorem dX3_moves_55 : decode cX3_moves 55 = .ok (.iastore, 1) := by decide +kernel
theorem dX3_moves_56 : decode cX3_moves 56 = .ok (.aload_n 0, 1) := by decide +kernel
theorem dX3_moves_57 : decode cX3_moves 57 = .ok (.iload_n 3, 1) := by decide +kernel
theorem dX3_moves_58 : decode cX3_moves 58 = .ok (.invokevirtual 55, 3) := by decide +kernel
theorem dX3_moves_61 : decode cX3_moves 61 = .ok (.iload 4, 2) := by decide +kernel
theorem dX3_moves_63 : decode cX3_moves 63 = .ok (.isub, 1) := by decide +kernel
theorem dX3_moves_64 : decode cX3_moves 64 = .ok (.istore 5, 2) := by decide +kernel
theorem dX3_moves_66 : decode cX3_moves 66 = .ok (.aload_n 0, 1) := by decide +kernel
theorem dX3_moves_67 : decode cX3_moves 67 = .ok (.getfield 25, 3) := by decide +kernel
theorem dX3_moves_70 : decode cX3_moves 70 = .ok (.iload_n 1, 1) := by decide +kernel
theorem dX3_moves_71 : decode cX3_moves 71 = .ok (.iconst 0, 1) := by decide +kernel
theorem dX3_moves_72 : decode cX3_moves 72 = .ok (.iastore, 1) := by decide +kernel
theorem dX3_moves_73 : decode cX3_moves 73 = .ok (.iload 5, 2) := by decide +kernel
theorem dX3_moves_75 : decode cX3_moves 75 = .ok (.ireturn, 1) := by decide +kernel
set_option maxRecDepth 20000 in
theorem ggX3_chord_X3_isString : GoodIn wsX3_chord wsX3_isString := goodIn_r _ [12, 13, 14, 11, 15] (by decide +kernel) (by decide +kernel)
set_option maxRecDepth 20000 in
theorem gX3_chord_X3_isString : GoodIn wsX3_chord (va_wsS RX3 40 yX3_isString wsX3_isString) := goodIn_app (goodIn_of _ (by decide +kernel)) ggX3_chord_X3_isString
set_option maxRecDepth 20000 in
theorem ggX3_chord_X3_fail : GoodIn wsX3_chord wsX3_fail := goodIn_r _ [19, 1, 20, 21, 22, 23, 24, 25, 26, 27] (by decide +kernel) (by decide +kernel)
set_option maxRecDepth 20000 in
theorem gX3_chord_X3_fail : GoodIn wsX3_chord (wsV RX3 52 RX3 yX3_fail wsX3_fail) := goodIn_app (goodIn_of _ (by decide +kernel)) ggX3_chord_X3_fail
set_option maxRecDepth 20000 in
theorem ggX3_chord_X3_isIn : GoodIn wsX3_chord wsX3_isIn := goodIn_r _ [15] (by decide +kernel) (by decide +kernel)
set_option maxRecDepth 20000 in
theorem gX3_chord_X3_isIn : GoodIn wsX3_chord (va_wsS RX3 36 yX3_isIn wsX3_isIn) := goodIn_app (goodIn_of _ (by decide +kernel)) ggX3_chord_X3_isIn
theorem dX3_chord_0 : decode cX3_chord 0 = .ok (.aload_n 0, 1) := by decide +kernel
theorem dX3_chord_1 : decode cX3_chord 1 = .ok (.iconst 0, 1) := by decide +kernel
theorem dX3_chord_2 : decode cX3_chord 2 = .ok (.putfield 32, 3) := by decide +kernel
theorem dX3_chord_5 : decode cX3_chord 5 = .ok (.iload_n 1, 1) := by decide +kernel
theorem dX3_chord_6 : decode cX3_chord 6 = .ok (.invokestatic 40, 3) := by decide +kernel
theorem dX3_chord_9 : decode cX3_chord 9 = .ok (.ifCond .ne 9, 3) := by decide +kernel
theorem dX3_chord_12 : decode cX3_chord 12 = .ok (.aload_n 0, 1) := by decide +kernel
theorem dX3_chord_13 : decode cX3_chord 13 = .ok (.iconst 1, 1) := by decide +kernel
theorem dX3_chord_14 : decode cX3_chord 14 = .ok (.invokevirtual 52, 3) := by decide +kernel
theorem dX3_chord_17 : decode cX3_chord 17 = .ok (.ireturn, 1) := by decide +kernel
theorem dX3_chord_18 : decode cX3_chord 18 = .ok (.iconst 2, 1) := by decide +kernel
theorem dX3_chord_19 : decode cX3_chord 19 = .ok (.iload 4, 2) := by decide +kernel
theorem dX3_chord_21 : decode cX3_chord 21 = .ok (.ifCond .le 7, 3) := by decide +kernel
theorem dX3_chord_24 : decode cX3_chord 24 = .ok (.iconst 1, 1) := by decide +kernel
theorem dX3_chord_25 : decode cX3_chord 25 = .ok (.goto 4, 3) := by decide +kernel
theorem dX3_chord_28 : decode cX3_chord 28 = .ok (.iconst 0, 1) := by decide +kernel
theorem dX3_chord_29 : decode cX3_chord 29 = .ok (.iadd, 1) := by decide +kernel
theorem dX3_chord_30 : decode cX3_chord 30 = .ok (.iload 5, 2) := by decide +kernel
theorem dX3_chord_32 : decode cX3_chord 32 = .ok (.ifCond .le 7, 3) := by decide +kernel
theorem dX3_chord_35 : decode cX3_chord 35 = .ok (.iconst 1, 1) := by decide +kernel
theorem dX3_chord_36 : decode cX3_chord 36 = .ok (.goto 4, 3) := by decide +kernel
theorem dX3_chord_39 : decode cX3_chord 39 = .ok (.iconst 0, 1) := by decide +kernel
theorem dX3_chord_40 : decode cX3_chord 40 = .ok (.iadd, 1) := by decide +kernel
theorem dX3_chord_41 : decode cX3_chord 41 = .ok (.istore 6, 2) := by decide +kernel
theorem dX3_chord_43 : decode cX3_chord 43 = .ok (.iload_n 2, 1) := by decide +kernel
theorem dX3_chord_44 : decode cX3_chord 44 = .ok (.iconst 1, 1) := by decide +kernel
theorem dX3_chord_45 : decode cX3_chord 45 = .ok (.sipush 1500, 3) := by decide +kernel
theorem dX3_chord_48 : decode cX3_chord 48 = .ok (.invokestatic 36, 3) := by decide +kernel
theorem dX3_chord_51 : decode cX3_chord 51 = .ok (.ifCond .eq 57, 3) := by decide +kernel
theorem dX3_chord_54 : decode cX3_chord 54 = .ok (.iload_n 3, 1) := by decide +kernel
theorem dX3_chord_55 : decode cX3_chord 55 = .ok (.iconst 1, 1) := by decide +kernel
theorem dX3_chord_56 : decode cX3_chord 56 = .ok (.sipush 1500, 3) := by decide +kernel
theorem dX3_chord_59 : decode cX3_chord 59 = .ok (.invokestatic 36, 3) := by decide +kernel
theorem dX3_chord_62 : decode cX3_chord 62 = .ok (.ifCond .eq 46, 3) := by decide +kernel
theorem dX3_chord_65 : decode cX3_chord 65 = .ok (.iload 4, 2) := by decide +kernel
theorem dX3_chord_67 : decode cX3_chord 67 = .ok (.iconst 0, 1) := by decide +kernel
theorem dX3_chord_68 : decode cX3_chord 68 = .ok (.sipush 1500, 3) := by decide +kernel
theorem dX3_chord_71 : decode cX3_chord 71 = .ok (.invokestatic 36, 3) := by decide +kernel
theorem dX3_chord_74 : decode cX3_chord 74 = .ok (.ifCond .eq 34, 3) := by decide +kernel
theorem dX3_chord_77 : decode cX3_chord 77 = .ok (.iload 5, 2) := by decide +kernel
theorem dX3_chord_79 : decode cX3_chord 79 = .ok (.iconst 0, 1) := by decide +kernel
theorem dX3_chord_80 : decode cX3_chord 80 = .ok (.sipush 1500, 3) := by decide +kernel
theorem dX3_chord_83 : decode cX3_chord 83 = .ok (.invokestatic 36, 3) := by decide +kernel
theorem dX3_chord_86 : decode cX3_chord 86 = .ok (.ifCond .eq 22, 3) := by decide +kernel
theorem dX3_chord_89 : decode cX3_chord 89 = .ok (.iload 4, 2) := by decide +kernel
theorem dX3_chord_91 : decode cX3_chord 91 = .ok (.ifCond .ne 8, 3) := by decide +kernel
theorem dX3_chord_94 : decode cX3_chord 94 = .ok (.iload 5, 2) := by decide +kernel
theorem dX3_chord_96 : decode cX3_chord 96 = .ok (.ifCond .gt 12, 3) := by decide +kernel
theorem dX3_chord_99 : decode cX3_chord 99 = .ok (.iload_n 1, 1) := by decide +kernel
theorem dX3_chord_100 : decode cX3_chord 100 = .ok (.iload 6, 2) := by decide +kernel
theorem dX3_chord_102 : decode cX3_chord 102 = .ok (.iadd, 1) := by decide +kernel
theorem dX3_chord_103 : decode cX3_chord 103 = .ok (.bipush 12, 2) := by decide +kernel
theorem dX3_chord_105 : decode cX3_chord 105 = .ok (.if_icmp .le 9, 3) := by decide +kernel
theorem dX3_chord_108 : decode cX3_chord 108 = .ok (.aload_n 0, 1) := by decide +kernel
theorem dX3_chord_109 : decode cX3_chord 109 = .ok (.iconst 2, 1) := by decide +kernel
theorem dX3_chord_110 : decode cX3_chord 110 = .ok (.invokevirtual 52, 3) := by decide +kernel
theorem dX3_chord_113 : decode cX3_chord 113 = .ok (.ireturn, 1) := by decide +kernel
theorem dX3_chord_114 : decode cX3_chord 114 = .ok (.aload_n 0, 1) := by decide +kernel
theorem dX3_chord_115 : decode cX3_chord 115 = .ok (.getfield 61, 3) := by decide +kernel
theorem dX3_chord_118 : decode cX3_chord 118 = .ok (.bipush 6, 2) := by decide +kernel
theorem dX3_chord_120 : decode cX3_chord 120 = .ok (.if_icmp .ne 9, 3) := by decide +kernel
theorem dX3_chord_123 : decode cX3_chord 123 = .ok (.aload_n 0, 1) := by decide +kernel
theorem dX3_chord_124 : decode cX3_chord 124 = .ok (.iconst 3, 1) := by decide +kernel
theorem dX3_chord_125 : decode cX3_chord 125 = .ok (.invokevirtual 52, 3) := by decide +kernel
theorem dX3_chord_128 : decode cX3_chord 128 = .ok (.ireturn, 1) := by decide +kernel
theorem dX3_chord_129 : decode cX3_chord 129 = .ok (.bipush 6, 2) := by decide +kernel
theorem dX3_chord_131 : decode cX3_chord 131 = .ok (.newarray .int, 2) := by decide +kernel
theorem dX3_chord_133 : decode cX3_chord 133 = .ok (.dup, 1) := by decide +kernel
theorem dX3_chord_134 : decode cX3_chord 134 = .ok (.iconst 0, 1) := by decide +kernel
theorem dX3_chord_135 : decode cX3_chord 135 = .ok (.iload_n 1, 1) := by decide +kernel
theorem dX3_chord_136 : decode cX3_chord 136 = .ok (.iastore, 1) := by decide +kernel
theorem dX3_chord_137 : decode cX3_chord 137 = .ok (.dup, 1) := by decide +kernel
theorem dX3_chord_138 : decode cX3_chord 138 = .ok (.iconst 1, 1) := by decide +kernel
theorem dX3_chord_139 : decode cX3_chord 139 = .ok (.iload 6, 2) := by decide +kernel
theorem dX3_chord_141 : decode cX3_chord 141 = .ok (.iastore, 1) := by decide +kernel
theorem dX3_chord_142 : decode cX3_chord 142 = .ok (.dup, 1) := by decide +kernel
theorem dX3_chord_143 : decode cX3_chord 143 = .ok (.iconst 2, 1) := by decide +kernel
theorem dX3_chord_144 : decode cX3_chord 144 = .ok (.iload_n 2, 1) := by decide +kernel
theorem dX3_chord_145 : decode cX3_chord 145 = .ok (.iastore, 1) := by decide +kernel
theorem dX3_chord_146 : decode cX3_chord 146 = .ok (.dup, 1) := by decide +kernel
theorem dX3_chord_147 : decode cX3_chord 147 = .ok (.iconst 3, 1) := by decide +kernel
theorem dX3_chord_148 : decode cX3_chord 148 = .ok (.iload_n 3, 1) := by decide +kernel
theorem dX3_chord_149 : decode cX3_chord 149 = .ok (.iastore, 1) := by decide +kernel
theorem dX3_chord_150 : decode cX3_chord 150 = .ok (.dup, 1) := by decide +kernel
theorem dX3_chord_151 : decode cX3_chord 151 = .ok (.iconst 4, 1) := by decide +kernel
theorem dX3_chord_152 : decode cX3_chord 152 = .ok (.iload 4, 2) := by decide +kernel
theorem dX3_chord_154 : decode cX3_chord 154 = .ok (.iastore, 1) := by decide +kernel
theorem dX3_chord_155 : decode cX3_chord 155 = .ok (.dup, 1) := by decide +kernel
theorem dX3_chord_156 : decode cX3_chord 156 = .ok (.iconst 5, 1) := by decide +kernel
theorem dX3_chord_157 : decode cX3_chord 157 = .ok (.iload 5, 2) := by decide +kernel
theorem dX3_chord_159 : decode cX3_chord 159 = .ok (.iastore, 1) := by decide +kernel
theorem dX3_chord_160 : decode cX3_chord 160 = .ok (.astore 7, 2) := by decide +kernel
theorem dX3_chord_162 : decode cX3_chord 162 = .ok (.aload 7, 2) := by decide +kernel
theorem dX3_chord_164 : decode cX3_chord 164 = .ok (.iconst 0, 1) := by decide +kernel
theorem dX3_chord_165 : decode cX3_chord 165 = .ok (.aload_n 0, 1) := by decide +kernel
theorem dX3_chord_166 : decode cX3_chord 166 = .ok (.getfield 13, 3) := by decide +kernel
theorem dX3_chord_169 : decode cX3_chord 169 = .ok (.bipush 6, 2) := by decide +kernel
theorem dX3_chord_171 : decode cX3_chord 171 = .ok (.aload_n 0, 1) := by decide +kernel
theorem dX3_chord_172 : decode cX3_chord 172 = .ok (.getfield 61, 3) := by decide +kernel
theorem dX3_chord_175 : decode cX3_chord 175 = .ok (.imul, 1) := by decide +kernel
theorem dX3_chord_176 : decode cX3_chord 176 = .ok (.bipush 6, 2) := by decide +kernel
theorem dX3_chord_178 : decode cX3_chord 178 = .ok (.invokestatic 64, 3) := by decide +kernel
theorem dX3_chord_181 : decode cX3_chord 181 = .ok (.aload_n 0, 1) := by decide +kernel
theorem dX3_chord_182 : decode cX3_chord 182 = .ok (.dup, 1) := by decide +kernel
theorem dX3_chord_183 : decode cX3_chord 183 = .ok (.getfield 61, 3) := by decide +kernel
theorem dX3_chord_186 : decode cX3_chord 186 = .ok (.iconst 1, 1) := by decide +kernel
theorem dX3_chord_187 : decode cX3_chord 187 = .ok (.iadd, 1) := by decide +kernel
theorem dX3_chord_188 : decode cX3_chord 188 = .ok (.putfield 61, 3) := by decide +kernel
theorem dX3_chord_191 : decode cX3_chord 191 = .ok (.aload_n 0, 1) := by decide +kernel
theorem dX3_chord_192 : decode cX3_chord 192 = .ok (.getfield 61, 3) := by decide +kernel
theorem dX3_chord_195 : decode cX3_chord 195 = .ok (.iconst 1, 1) := by decide +kernel
theorem dX3_chord_196 : decode cX3_chord 196 = .ok (.isub, 1) := by decide +kernel
theorem dX3_chord_197 : decode cX3_chord 197 = .ok (.ireturn, 1) := by decide +kernel
set_option maxRecDepth 20000 in
theorem ggX3_isChord_X3_isIn : GoodIn wsX3_isChord wsX3_isIn := goodIn_r _ [5] (by decide +kernel) (by decide +kernel)
set_option maxRecDepth 20000 in
theorem gX3_isChord_X3_isIn : GoodIn wsX3_isChord (va_wsS RX3 36 yX3_isIn wsX3_isIn) := goodIn_app (goodIn_of _ (by decide +kernel)) ggX3_isChord_X3_isIn
theorem dX3_isChord_0 : decode cX3_isChord 0 = .ok (.iload_n 1, 1) := by decide +kernel
theorem dX3_isChord_1 : decode cX3_isChord 1 = .ok (.iconst 0, 1) := by decide +kernel
theorem dX3_isChord_2 : decode cX3_isChord 2 = .ok (.aload_n 0, 1) := by decide +kernel
theorem dX3_isChord_3 : decode cX3_isChord 3 = .ok (.getfield 61, 3) := by decide +kernel
theorem dX3_isChord_6 : decode cX3_isChord 6 = .ok (.iconst 1, 1) := by decide +kernel
theorem dX3_isChord_7 : decode cX3_isChord 7 = .ok (.isub, 1) := by decide +kernel
theorem dX3_isChord_8 : decode cX3_isChord 8 = .ok (.invokestatic 36, 3) := by decide +kernel
theorem dX3_isChord_11 : decode cX3_isChord 11 = .ok (.ireturn, 1) := by decide +kernel
theorem dX3_to_0 : decode cX3_to 0 = .ok (.aload_n 0, 1) := by decide +kernel
theorem dX3_to_1 : decode cX3_to 1 = .ok (.getfield 13, 3) := by decide +kernel
theorem dX3_to_4 : decode cX3_to 4 = .ok (.bipush 6, 2) := by decide +kernel
theorem dX3_to_6 : decode cX3_to 6 = .ok (.iload_n 1, 1) := by decide +kernel
theorem dX3_to_7 : decode cX3_to 7 = .ok (.imul, 1) := by decide +kernel
theorem dX3_to_8 : decode cX3_to 8 = .ok (.iload_n 2, 1) := by decide +kernel
theorem dX3_to_9 : decode cX3_to 9 = .ok (.iadd, 1) := by decide +kernel
theorem dX3_to_10 : decode cX3_to 10 = .ok (.iaload, 1) := by decide +kernel
theorem dX3_to_11 : decode cX3_to 11 = .ok (.ireturn, 1) := by decide +kernel
set_option maxRecDepth 20000 in
theorem ggX3_differs_X3_to : GoodIn wsX3_differs wsX3_to := goodIn_r _ [9, 10, 32, 33, 34, 35, 36, 37, 38, 39] (by decide +kernel) (by decide +kernel)
set_option maxRecDepth 20000 in
theorem gX3_differs_X3_to : GoodIn wsX3_differs (wsV RX3 70 RX3 yX3_to wsX3_to) := goodIn_app (goodIn_of _ (by decide +kernel)) ggX3_differs_X3_to
set_option maxRecDepth 20000 in
theorem ggX3_differs_X3_tone : GoodIn wsX3_differs wsX3_tone := goodIn_r _ [14, 15, 16, 17, 18, 8, 19, 20, 21, 22, 23, 24, 25, 26, 27, 28, 29, 30, 31, 32, 33, 34, 35, 36, 37, 38, 39] (by decide +kernel) (by decide +kernel)
set_option maxRecDepth 20000 in
theorem gX3_differs_X3_tone : GoodIn wsX3_differs (wsV RX3 55 RX3 yX3_tone wsX3_tone) := goodIn_app (goodIn_of _ (by decide +kernel)) ggX3_differs_X3_tone
theorem dX3_differs_0 : decode cX3_differs 0 = .ok (.aload_n 0, 1) := by decide +kernel
theorem dX3_differs_1 : decode cX3_differs 1 = .ok (.aload_n 0, 1) := by decide +kernel
theorem dX3_differs_2 : decode cX3_differs 2 = .ok (.iload_n 1, 1) := by decide +kernel
theorem dX3_differs_3 : decode cX3_differs 3 = .ok (.iconst 0, 1) := by decide +kernel
theorem dX3_differs_4 : decode cX3_differs 4 = .ok (.invokevirtual 70, 3) := by decide +kernel
theorem dX3_differs_7 : decode cX3_differs 7 = .ok (.iload_n 2, 1) := by decide +kernel
theorem dX3_differs_8 : decode cX3_differs 8 = .ok (.iadd, 1) := by decide +kernel
theorem dX3_differs_9 : decode cX3_differs 9 = .ok (.invokevirtual 55, 3) := by decide +kernel
theorem dX3_differs_12 : decode cX3_differs 12 = .ok (.aload_n 0, 1) := by decide +kernel
theorem dX3_differs_13 : decode cX3_differs 13 = .ok (.iload_n 1, 1) := by decide +kernel
theorem dX3_differs_14 : decode cX3_differs 14 = .ok (.iconst 2, 1) := by decide +kernel
theorem dX3_differs_15 : decode cX3_differs 15 = .ok (.iload_n 2, 1) := by decide +kernel
theorem dX3_differs_16 : decode cX3_differs 16 = .ok (.iadd, 1) := by decide +kernel
theorem dX3_differs_17 : decode cX3_differs 17 = .ok (.invokevirtual 70, 3) := by decide +kernel
theorem dX3_differs_20 : decode cX3_differs 20 = .ok (.isub, 1) := by decide +kernel
theorem dX3_differs_21 : decode cX3_differs 21 = .ok (.invokestatic 73, 3) := by decide +kernel
theorem dX3_differs_24 : decode cX3_differs 24 = .ok (.ireturn, 1) := by decide +kernel
set_option maxRecDepth 20000 in
theorem ggX3_offBy_X3_to : GoodIn wsX3_offBy wsX3_to := goodIn_r _ [5, 6, 36, 37, 38, 39, 40, 41, 42, 43] (by decide +kernel) (by decide +kernel)
set_option maxRecDepth 20000 in
theorem gX3_offBy_X3_to : GoodIn wsX3_offBy (wsV RX3 70 RX3 yX3_to wsX3_to) := goodIn_app (goodIn_of _ (by decide +kernel)) ggX3_offBy_X3_to
set_option maxRecDepth 20000 in
theorem ggX3_offBy_X3_differs : GoodIn wsX3_offBy wsX3_differs := goodIn_r _ [10, 11, 12, 13, 14, 1, 2, 3, 4, 5, 6, 15, 16, 17, 18, 19, 20, 21, 22, 23, 24, 25, 26, 27, 28, 29, 30, 31, 32, 33, 34, 35, 36, 37, 38, 39, 40, 41, 42, 43] (by decide +kernel) (by decide +kernel)
set_option maxRecDepth 20000 in
theorem gX3_offBy_X3_differs : GoodIn wsX3_offBy (wsV RX3 78 RX3 yX3_differs wsX3_differs) := goodIn_app (goodIn_of _ (by decide +kernel)) ggX3_offBy_X3_differs
theorem dX3_offBy_0 : decode cX3_offBy 0 = .ok (.iconst 0, 1) := by decide +kernel
theorem dX3_offBy_1 : decode cX3_offBy 1 = .ok (.istore_n 2, 1) := by decide +kernel
theorem dX3_offBy_2 : decode cX3_offBy 2 = .ok (.iconst 0, 1) := by decide +kernel
theorem dX3_offBy_3 : decode cX3_offBy 3 = .ok (.istore_n 3, 1) := by decide +kernel
theorem dX3_offBy_4 : decode cX3_offBy 4 = .ok (.iload_n 3, 1) := by decide +kernel
theorem dX3_offBy_5 : decode cX3_offBy 5 = .ok (.aload_n 0, 1) := by decide +kernel
theorem dX3_offBy_6 : decode cX3_offBy 6 = .ok (.iload_n 1, 1) := by decide +kernel
theorem dX3_offBy_7 : decode cX3_offBy 7 = .ok (.iconst 1, 1) := by decide +kernel
theorem dX3_offBy_8 : decode cX3_offBy 8 = .ok (.invokevirtual 70, 3) := by decide +kernel
theorem dX3_offBy_11 : decode cX3_offBy 11 = .ok (.if_icmp .ge 18, 3) := by decide +kernel
theorem dX3_offBy_14 : decode cX3_offBy 14 = .ok (.iload_n 2, 1) := by decide +kernel
theorem dX3_offBy_15 : decode cX3_offBy 15 = .ok (.aload_n 0, 1) := by decide +kernel
theorem dX3_offBy_16 : decode cX3_offBy 16 = .ok (.iload_n 1, 1) := by decide +kernel
theorem dX3_offBy_17 : decode cX3_offBy 17 = .ok (.iload_n 3, 1) := by decide +kernel
theorem dX3_offBy_18 : decode cX3_offBy 18 = .ok (.invokevirtual 78, 3) := by decide +kernel
theorem dX3_offBy_21 : decode cX3_offBy 21 = .ok (.iadd, 1) := by decide +kernel
theorem dX3_offBy_22 : decode cX3_offBy 22 = .ok (.istore_n 2, 1) := by decide +kernel
theorem dX3_offBy_23 : decode cX3_offBy 23 = .ok (.iinc 3 1, 3) := by decide +kernel
theorem dX3_offBy_26 : decode cX3_offBy 26 = .ok (.goto (-22), 3) := by decide +kernel
theorem dX3_offBy_29 : decode cX3_offBy 29 = .ok (.iload_n 2, 1) := by decide +kernel
theorem dX3_offBy_30 : decode cX3_offBy 30 = .ok (.ireturn, 1) := by decide +kernel
set_option maxRecDepth 20000 in
theorem ggX3_off_X3_isChord : GoodIn wsX3_off wsX3_isChord := goodIn_r _ [6, 7, 8, 9, 5, 10, 50, 51, 52, 53, 54, 55, 56, 57] (by decide +kernel) (by decide +kernel)
set_option maxRecDepth 20000 in
theorem gX3_off_X3_isChord : GoodIn wsX3_off (wsV RX3 81 RX3 yX3_isChord wsX3_isChord) := goodIn_app (goodIn_of _ (by decide +kernel)) ggX3_off_X3_isChord
set_option maxRecDepth 20000 in
theorem ggX3_off_X3_offBy : GoodIn wsX3_off wsX3_offBy := goodIn_r _ [14, 15, 16, 17, 5, 18, 19, 20, 21, 22, 23, 24, 25, 26, 27, 28, 29, 30, 31, 32, 33, 34, 35, 36, 37, 38, 39, 40, 41, 42, 43, 44, 45, 8, 9, 10, 50, 51, 52, 53, 54, 55, 56, 57] (by decide +kernel) (by decide +kernel)
set_option maxRecDepth 20000 in
theorem gX3_off_X3_offBy : GoodIn wsX3_off (wsV RX3 84 RX3 yX3_offBy wsX3_offBy) := goodIn_app (goodIn_of _ (by decide +kernel)) ggX3_off_X3_offBy
set_option maxRecDepth 20000 in
theorem ggX3_off_X3_fail : GoodIn wsX3_off wsX3_fail := goodIn_r _ [49, 1, 50, 51, 52, 53, 54, 55, 56, 57] (by decide +kernel) (by decide +kernel)
set_option maxRecDepth 20000 in
theorem gX3_off_X3_fail : GoodIn wsX3_off (wsV RX3 52 RX3 yX3_fail wsX3_fail) := goodIn_app (goodIn_of _ (by decide +kernel)) ggX3_off_X3_fail
theorem dX3_off_0 : decode cX3_off 0 = .ok (.aload_n 0, 1) := by decide +kernel
theorem dX3_off_1 : decode cX3_off 1 = .ok (.iconst 0, 1) := by decide +kernel
theorem dX3_off_2 : decode cX3_off 2 = .ok (.putfield 32, 3) := by decide +kernel
theorem dX3_off_5 : decode cX3_off 5 = .ok (.aload_n 0, 1) := by decide +kernel
theorem dX3_off_6 : decode cX3_off 6 = .ok (.iload_n 1, 1) := by decide +kernel
theorem dX3_off_7 : decode cX3_off 7 = .ok (.invokevirtual 81, 3) := by decide +kernel
theorem dX3_off_10 : decode cX3_off 10 = .ok (.ifCond .eq 11, 3) := by decide +kernel
theorem dX3_off_13 : decode cX3_off 13 = .ok (.aload_n 0, 1) := by decide +kernel
theorem dX3_off_14 : decode cX3_off 14 = .ok (.iload_n 1, 1) := by decide +kernel
theorem dX3_off_15 : decode cX3_off 15 = .ok (.invokevirtual 84, 3) := by decide +kernel
theorem dX3_off_18 : decode cX3_off 18 = .ok (.goto 8, 3) := by decide +kernel
theorem dX3_off_21 : decode cX3_off 21 = .ok (.aload_n 0, 1) := by decide +kernel
theorem dX3_off_22 : decode cX3_off 22 = .ok (.iconst 1, 1) := by decide +kernel
theorem dX3_off_23 : decode cX3_off 23 = .ok (.invokevirtual 52, 3) := by decide +kernel
theorem dX3_off_26 : decode cX3_off 26 = .ok (.ireturn, 1) := by decide +kernel
set_option maxRecDepth 20000 in
theorem ggX3_isSounding_X3_to : GoodIn wsX3_isSounding wsX3_to := goodIn_r _ [5, 6, 36, 37, 38, 39, 40, 41, 42, 43] (by decide +kernel) (by decide +kernel)
set_option maxRecDepth 20000 in
theorem gX3_isSounding_X3_to : GoodIn wsX3_isSounding (wsV RX3 70 RX3 yX3_to wsX3_to) := goodIn_app (goodIn_of _ (by decide +kernel)) ggX3_isSounding_X3_to
set_option maxRecDepth 20000 in
theorem ggX3_isSounding_X3_ha : GoodIn wsX3_isSounding wsX3_ha := goodIn_r _ [10, 11, 36, 37, 38, 39, 40, 41, 42, 43] (by decide +kernel) (by decide +kernel)
set_option maxRecDepth 20000 in
theorem gX3_isSounding_X3_ha : GoodIn wsX3_isSounding (wsV RX3 44 RX3 yX3_ha wsX3_ha) := goodIn_app (goodIn_of _ (by decide +kernel)) ggX3_isSounding_X3_ha
set_option maxRecDepth 20000 in
theorem ggX3_isSounding_X3_differs : GoodIn wsX3_isSounding wsX3_differs := goodIn_r _ [15, 16, 17, 18, 19, 1, 2, 3, 4, 5, 6, 20, 21, 22, 23, 24, 7, 8, 9, 10, 11, 25, 26, 27, 28, 29, 30, 31, 32, 33, 34, 35, 36, 37, 38, 39, 40, 41, 42, 43] (by decide +kernel) (by decide +kernel)
set_option maxRecDepth 20000 in
theorem gX3_isSounding_X3_differs : GoodIn wsX3_isSounding (wsV RX3 78 RX3 yX3_differs wsX3_differs) := goodIn_app (goodIn_of _ (by decide +kernel)) ggX3_isSounding_X3_differs
theorem dX3_isSounding_0 : decode cX3_isSounding 0 = .ok (.iconst 0, 1) := by decide +kernel
theorem dX3_isSounding_1 : decode cX3_isSounding 1 = .ok (.istore_n 2, 1) := by decide +kernel
theorem dX3_isSounding_2 : decode cX3_isSounding 2 = .ok (.iload_n 2, 1) := by decide +kernel
theorem dX3_isSounding_3 : decode cX3_isSounding 3 = .ok (.aload_n 0, 1) := by decide +kernel
theorem dX3_isSounding_4 : decode cX3_isSounding 4 = .ok (.iload_n 1, 1) := by decide +kernel
theorem dX3_isSounding_5 : decode cX3_isSounding 5 = .ok (.iconst 1, 1) := by decide +kernel
theorem dX3_isSounding_6 : decode cX3_isSounding 6 = .ok (.invokevirtual 70, 3) := by decide +kernel
theorem dX3_isSounding_9 : decode cX3_isSounding 9 = .ok (.if_icmp .ge 37, 3) := by decide +kernel
theorem dX3_isSounding_12 : decode cX3_isSounding 12 = .ok (.aload_n 0, 1) := by decide +kernel
theorem dX3_isSounding_13 : decode cX3_isSounding 13 = .ok (.aload_n 0, 1) := by decide +kernel
theorem dX3_isSounding_14 : decode cX3_isSounding 14 = .ok (.iload_n 1, 1) := by decide +kernel
theorem dX3_isSounding_15 : decode cX3_isSounding 15 = .ok (.iconst 0, 1) := by decide +kernel
theorem dX3_isSounding_16 : decode cX3_isSounding 16 = .ok (.invokevirtual 70, 3) := by decide +kernel
theorem dX3_isSounding_19 : decode cX3_isSounding 19 = .ok (.iload_n 2, 1) := by decide +kernel
theorem dX3_isSounding_20 : decode cX3_isSounding 20 = .ok (.iadd, 1) := by decide +kernel
theorem dX3_isSounding_21 : decode cX3_isSounding 21 = .ok (.iconst 4, 1) := by decide +kernel
theorem dX3_isSounding_22 : decode cX3_isSounding 22 = .ok (.invokevirtual 44, 3) := by decide +kernel
theorem dX3_isSounding_25 : decode cX3_isSounding 25 = .ok (.ifCond .eq 13, 3) := by decide +kernel
theorem dX3_isSounding_28 : decode cX3_isSounding 28 = .ok (.aload_n 0, 1) := by decide +kernel
theorem dX3_isSounding_29 : decode cX3_isSounding 29 = .ok (.iload_n 1, 1) := by decide +kernel
theorem dX3_isSounding_30 : decode cX3_isSounding 30 = .ok (.iload_n 2, 1) := by decide +kernel
theorem dX3_isSounding_31 : decode cX3_isSounding 31 = .ok (.invokevirtual 78, 3) := by decide +kernel
theorem dX3_isSounding_34 : decode cX3_isSounding 34 = .ok (.iconst 5, 1) := by decide +kernel
theorem dX3_isSounding_35 : decode cX3_isSounding 35 = .ok (.if_icmp .le 5, 3) := by decide +kernel
theorem dX3_isSounding_38 : decode cX3_isSounding 38 = .ok (.iconst 0, 1) := by decide +kernel
theorem dX3_isSounding_39 : decode cX3_isSounding 39 = .ok (.ireturn, 1) := by decide +kernel
theorem dX3_isSounding_40 : decode cX3_isSounding 40 = .ok (.iinc 2 1, 3) := by decide +kernel
theorem dX3_isSounding_43 : decode cX3_isSounding 43 = .ok (.goto (-41), 3) := by decide +kernel
theorem dX3_isSounding_46 : decode cX3_isSounding 46 = .ok (.iconst 1, 1) := by decide +kernel
theorem dX3_isSounding_47 : decode cX3_isSounding 47 = .ok (.ireturn, 1) := by decide +kernel
set_option maxRecDepth 20000 in
theorem ggX3_sounds_X3_isChord : GoodIn wsX3_sounds wsX3_isChord := goodIn_r _ [6, 7, 8, 9, 5, 10, 46, 47, 48, 49, 50, 51, 52, 53] (by decide +kernel) (by decide +kernel)
set_option maxRecDepth 20000 in
theorem gX3_sounds_X3_isChord : GoodIn wsX3_sounds (wsV RX3 81 RX3 yX3_isChord wsX3_isChord) := goodIn_app (goodIn_of _ (by decide +kernel)) ggX3_sounds_X3_isChord
set_option maxRecDepth 20000 in
theorem ggX3_sounds_X3_isSounding : GoodIn wsX3_sounds wsX3_isSounding := goodIn_r _ [14, 15, 16, 17, 5, 18, 19, 20, 21, 22, 23, 24, 25, 26, 27, 28, 29, 30, 31, 32, 33, 34, 35, 36, 37, 38, 39, 40, 41, 42, 43, 44, 45, 8, 9, 10, 46, 47, 48, 49, 50, 51, 52, 53] (by decide +kernel) (by decide +kernel)
set_option maxRecDepth 20000 in
theorem gX3_sounds_X3_isSounding : GoodIn wsX3_sounds (wsV RX3 87 RX3 yX3_isSounding wsX3_isSounding) := goodIn_app (goodIn_of _ (by decide +kernel)) ggX3_sounds_X3_isSounding
theorem dX3_sounds_0 : decode cX3_sounds 0 = .ok (.aload_n 0, 1) := by decide +kernel
theorem dX3_sounds_1 : decode cX3_sounds 1 = .ok (.aload_n 0, 1) := by decide +kernel
theorem dX3_sounds_2 : decode cX3_sounds 2 = .ok (.iload_n 1, 1) := by decide +kernel
theorem dX3_sounds_3 : decode cX3_sounds 3 = .ok (.invokevirtual 81, 3) := by decide +kernel
theorem dX3_sounds_6 : decode cX3_sounds 6 = .ok (.ifCond .eq 7, 3) := by decide +kernel
theorem dX3_sounds_9 : decode cX3_sounds 9 = .ok (.iconst 0, 1) := by decide +kernel
theorem dX3_sounds_10 : decode cX3_sounds 10 = .ok (.goto 4, 3) := by decide +kernel
theorem dX3_sounds_13 : decode cX3_sounds 13 = .ok (.iconst 1, 1) := by decide +kernel
theorem dX3_sounds_14 : decode cX3_sounds 14 = .ok (.putfield 32, 3) := by decide +kernel
theorem dX3_sounds_17 : decode cX3_sounds 17 = .ok (.aload_n 0, 1) := by decide +kernel
theorem dX3_sounds_18 : decode cX3_sounds 18 = .ok (.getfield 32, 3) := by decide +kernel
theorem dX3_sounds_21 : decode cX3_sounds 21 = .ok (.ifCond .ne 15, 3) := by decide +kernel
theorem dX3_sounds_24 : decode cX3_sounds 24 = .ok (.aload_n 0, 1) := by decide +kernel
theorem dX3_sounds_25 : decode cX3_sounds 25 = .ok (.iload_n 1, 1) := by decide +kernel
theorem dX3_sounds_26 : decode cX3_sounds 26 = .ok (.invokevirtual 87, 3) := by decide +kernel
theorem dX3_sounds_29 : decode cX3_sounds 29 = .ok (.ifCond .eq 7, 3) := by decide +kernel
theorem dX3_sounds_32 : decode cX3_sounds 32 = .ok (.iconst 1, 1) := by decide +kernel
theorem dX3_sounds_33 : decode cX3_sounds 33 = .ok (.goto 4, 3) := by decide +kernel
theorem dX3_sounds_36 : decode cX3_sounds 36 = .ok (.iconst 0, 1) := by decide +kernel
theorem dX3_sounds_37 : decode cX3_sounds 37 = .ok (.ireturn, 1) := by decide +kernel
set_option maxRecDepth 20000 in
theorem ggX3_steps_X3_isChord : GoodIn wsX3_steps wsX3_isChord := goodIn_r _ [11, 12, 13, 14, 10, 15, 50, 51, 52, 53, 54, 55, 56, 57] (by decide +kernel) (by decide +kernel)
set_option maxRecDepth 20000 in
theorem gX3_steps_X3_isChord : GoodIn wsX3_steps (wsV RX3 81 RX3 yX3_isChord wsX3_isChord) := goodIn_app (goodIn_of _ (by decide +kernel)) ggX3_steps_X3_isChord
set_option maxRecDepth 20000 in
theorem ggX3_steps_X3_fail : GoodIn wsX3_steps wsX3_fail := goodIn_r _ [19, 1, 50, 51, 52, 53, 54, 55, 56, 57] (by decide +kernel) (by decide +kernel)
set_option maxRecDepth 20000 in
theorem gX3_steps_X3_fail : GoodIn wsX3_steps (wsV RX3 52 RX3 yX3_fail wsX3_fail) := goodIn_app (goodIn_of _ (by decide +kernel)) ggX3_steps_X3_fail
set_option maxRecDepth 20000 in
theorem ggX3_steps_X3_to : GoodIn wsX3_steps wsX3_to := goodIn_r _ [23, 24, 50, 51, 52, 53, 54, 55, 56, 57] (by decide +kernel) (by decide +kernel)
set_option maxRecDepth 20000 in
theorem gX3_steps_X3_to : GoodIn wsX3_steps (wsV RX3 70 RX3 yX3_to wsX3_to) := goodIn_app (goodIn_of _ (by decide +kernel)) ggX3_steps_X3_to
set_option maxRecDepth 20000 in
theorem ggX3_steps_X3_wedge : GoodIn wsX3_steps wsX3_wedge := goodIn_r _ [28, 2, 29, 30, 10, 31, 13, 14, 15, 32, 33, 34, 35, 36, 50, 51, 52, 53, 54, 55, 56, 57] (by decide +kernel) (by decide +kernel)
set_option maxRecDepth 20000 in
theorem gX3_steps_X3_wedge : GoodIn wsX3_steps (wsV RX3 48 RX3 yX3_wedge wsX3_wedge) := goodIn_app (goodIn_of _ (by decide +kernel)) ggX3_steps_X3_wedge
set_option maxRecDepth 20000 in
theorem ggX3_steps_X3_isIn : GoodIn wsX3_steps wsX3_isIn := goodIn_r _ [15] (by decide +kernel) (by decide +kernel)
set_option maxRecDepth 20000 in
theorem gX3_steps_X3_isIn : GoodIn wsX3_steps (va_wsS RX3 36 yX3_isIn wsX3_isIn) := goodIn_app (goodIn_of _ (by decide +kernel)) ggX3_steps_X3_isIn
set_option maxRecDepth 20000 in
theorem ggX3_steps_X3_isSounding : GoodIn wsX3_steps wsX3_isSounding := goodIn_r _ [40, 20, 21, 22, 10, 23, 24, 32, 33, 34, 35, 36, 41, 42, 43, 44, 3, 4, 5, 6, 45, 46, 47, 48, 49, 25, 26, 27, 28, 2, 29, 30, 31, 13, 14, 15, 50, 51, 52, 53, 54, 55, 56, 57] (by decide +kernel) (by decide +kernel)
set_option maxRecDepth 20000 in
theorem gX3_steps_X3_isSounding : GoodIn wsX3_steps (wsV RX3 87 RX3 yX3_isSounding wsX3_isSounding) := goodIn_app (goodIn_of _ (by decide +kernel)) ggX3_steps_X3_isSounding
theorem dX3_steps_0 : decode cX3_steps 0 = .ok (.aload_n 0, 1) := by decide +kernel
theorem dX3_steps_1 : decode cX3_steps 1 = .ok (.iconst 0, 1) := by decide +kernel
theorem dX3_steps_2 : decode cX3_steps 2 = .ok (.putfield 32, 3) := by decide +kernel
theorem dX3_steps_5 : decode cX3_steps 5 = .ok (.aload_n 0, 1) := by decide +kernel
theorem dX3_steps_6 : decode cX3_steps 6 = .ok (.iload_n 1, 1) := by decide +kernel
theorem dX3_steps_7 : decode cX3_steps 7 = .ok (.invokevirtual 81, 3) := by decide +kernel
theorem dX3_steps_10 : decode cX3_steps 10 = .ok (.ifCond .ne 9, 3) := by decide +kernel
theorem dX3_steps_13 : decode cX3_steps 13 = .ok (.aload_n 0, 1) := by decide +kernel
theorem dX3_steps_14 : decode cX3_steps 14 = .ok (.iconst 1, 1) := by decide +kernel
theorem dX3_steps_15 : decode cX3_steps 15 = .ok (.invokevirtual 52, 3) := by decide +kernel
theorem dX3_steps_18 : decode cX3_steps 18 = .ok (.ireturn, 1) := by decide +kernel
theorem dX3_steps_19 : decode cX3_steps 19 = .ok (.aload_n 0, 1) := by decide +kernel
theorem dX3_steps_20 : decode cX3_steps 20 = .ok (.iload_n 1, 1) := by decide +kernel
theorem dX3_steps_21 : decode cX3_steps 21 = .ok (.iconst 1, 1) := by decide +kernel
theorem dX3_steps_22 : decode cX3_steps 22 = .ok (.invokevirtual 70, 3) := by decide +kernel
theorem dX3_steps_25 : decode cX3_steps 25 = .ok (.istore_n 2, 1) := by decide +kernel
theorem dX3_steps_26 : decode cX3_steps 26 = .ok (.iconst 1, 1) := by decide +kernel
theorem dX3_steps_27 : decode cX3_steps 27 = .ok (.istore_n 3, 1) := by decide +kernel
theorem dX3_steps_28 : decode cX3_steps 28 = .ok (.iconst 0, 1) := by decide +kernel
theorem dX3_steps_29 : decode cX3_steps 29 = .ok (.istore 4, 2) := by decide +kernel
theorem dX3_steps_31 : decode cX3_steps 31 = .ok (.iload 4, 2) := by decide +kernel
theorem dX3_steps_33 : decode cX3_steps 33 = .ok (.iload_n 2, 1) := by decide +kernel
theorem dX3_steps_34 : decode cX3_steps 34 = .ok (.if_icmp .ge 14, 3) := by decide +kernel
theorem dX3_steps_37 : decode cX3_steps 37 = .ok (.iload_n 3, 1) := by decide +kernel
theorem dX3_steps_38 : decode cX3_steps 38 = .ok (.bipush 9, 2) := by decide +kernel
theorem dX3_steps_40 : decode cX3_steps 40 = .ok (.imul, 1) := by decide +kernel
theorem dX3_steps_41 : decode cX3_steps 41 = .ok (.istore_n 3, 1) := by decide +kernel
theorem dX3_steps_42 : decode cX3_steps 42 = .ok (.iinc 4 1, 3) := by decide +kernel
theorem dX3_steps_45 : decode cX3_steps 45 = .ok (.goto (-14), 3) := by decide +kernel
theorem dX3_steps_48 : decode cX3_steps 48 = .ok (.iconst (-1), 1) := by decide +kernel
theorem dX3_steps_49 : decode cX3_steps 49 = .ok (.istore 4, 2) := by decide +kernel
theorem dX3_steps_51 : decode cX3_steps 51 = .ok (.iconst 0, 1) := by decide +kernel
theorem dX3_steps_52 : decode cX3_steps 52 = .ok (.istore 5, 2) := by decide +kernel
theorem dX3_steps_54 : decode cX3_steps 54 = .ok (.iload 5, 2) := by decide +kernel
theorem dX3_steps_56 : decode cX3_steps 56 = .ok (.iload_n 3, 1) := by decide +kernel
theorem dX3_steps_57 : decode cX3_steps 57 = .ok (.if_icmp .ge 128, 3) := by decide +kernel
theorem dX3_steps_60 : decode cX3_steps 60 = .ok (.iload 5, 2) := by decide +kernel
theorem dX3_steps_62 : decode cX3_steps 62 = .ok (.istore 6, 2) := by decide +kernel
theorem dX3_steps_64 : decode cX3_steps 64 = .ok (.iconst 0, 1) := by decide +kernel
theorem dX3_steps_65 : decode cX3_steps 65 = .ok (.istore 7, 2) := by decide +kernel
theorem dX3_steps_67 : decode cX3_steps 67 = .ok (.iconst 1, 1) := by decide +kernel
theorem dX3_steps_68 : decode cX3_steps 68 = .ok (.istore 8, 2) := by decide +kernel
theorem dX3_steps_70 : decode cX3_steps 70 = .ok (.iconst 0, 1) := by decide +kernel
theorem dX3_steps_71 : decode cX3_steps 71 = .ok (.istore 9, 2) := by decide +kernel
theorem dX3_steps_73 : decode cX3_steps 73 = .ok (.iload 9, 2) := by decide +kernel
theorem dX3_steps_75 : decode cX3_steps 75 = .ok (.iload_n 2, 1) := by decide +kernel
theorem dX3_steps_76 : decode cX3_steps 76 = .ok (.if_icmp .ge 73, 3) := by decide +kernel
theorem dX3_steps_79 : decode cX3_steps 79 = .ok (.aload_n 0, 1) := by decide +kernel
theorem dX3_steps_80 : decode cX3_steps 80 = .ok (.iload_n 1, 1) := by decide +kernel
theorem dX3_steps_81 : decode cX3_steps 81 = .ok (.iconst 0, 1) := by decide +kernel
theorem dX3_steps_82 : decode cX3_steps 82 = .ok (.invokevirtual 70, 3) := by decide +kernel
theorem dX3_steps_85 : decode cX3_steps 85 = .ok (.iload 9, 2) := by decide +kernel
theorem dX3_steps_87 : decode cX3_steps 87 = .ok (.iadd, 1) := by decide +kernel
theorem dX3_steps_88 : decode cX3_steps 88 = .ok (.istore 10, 2) := by decide +kernel
theorem dX3_steps_90 : decode cX3_steps 90 = .ok (.aload_n 0, 1) := by decide +kernel
theorem dX3_steps_91 : decode cX3_steps 91 = .ok (.getfield 25, 3) := by decide +kernel
theorem dX3_steps_94 : decode cX3_steps 94 = .ok (.iload 10, 2) := by decide +kernel
theorem dX3_steps_96 : decode cX3_steps 96 = .ok (.iload 6, 2) := by decide +kernel
theorem dX3_steps_98 : decode cX3_steps 98 = .ok (.bipush 9, 2) := by decide +kernel
theorem dX3_steps_100 : decode cX3_steps 100 = .ok (.irem, 1) := by decide +kernel
theorem dX3_steps_101 : decode cX3_steps 101 = .ok (.iconst 4, 1) := by decide +kernel
theorem dX3_steps_102 : decode cX3_steps 102 = .ok (.isub, 1) := by decide +kernel
theorem dX3_steps_103 : decode cX3_steps 103 = .ok (.iastore, 1) := by decide +kernel
theorem dX3_steps_104 : decode cX3_steps 104 = .ok (.iload 7, 2) := by decide +kernel
theorem dX3_steps_106 : decode cX3_steps 106 = .ok (.aload_n 0, 1) := by decide +kernel
theorem dX3_steps_107 : decode cX3_steps 107 = .ok (.getfield 25, 3) := by decide +kernel
theorem dX3_steps_110 : decode cX3_steps 110 = .ok (.iload 10, 2) := by decide +kernel
theorem dX3_steps_112 : decode cX3_steps 112 = .ok (.iaload, 1) := by decide +kernel
theorem dX3_steps_113 : decode cX3_steps 113 = .ok (.invokestatic 73, 3) := by decide +kernel
theorem dX3_steps_116 : decode cX3_steps 116 = .ok (.iadd, 1) := by decide +kernel
theorem dX3_steps_117 : decode cX3_steps 117 = .ok (.istore 7, 2) := by decide +kernel
theorem dX3_steps_119 : decode cX3_steps 119 = .ok (.iload 8, 2) := by decide +kernel
theorem dX3_steps_121 : decode cX3_steps 121 = .ok (.aload_n 0, 1) := by decide +kernel
theorem dX3_steps_122 : decode cX3_steps 122 = .ok (.iload 10, 2) := by decide +kernel
theorem dX3_steps_124 : decode cX3_steps 124 = .ok (.invokevirtual 48, 3) := by decide +kernel
theorem dX3_steps_127 : decode cX3_steps 127 = .ok (.iconst 0, 1) := by decide +kernel
theorem dX3_steps_128 : decode cX3_steps 128 = .ok (.bipush 20, 2) := by decide +kernel
theorem dX3_steps_130 : decode cX3_steps 130 = .ok (.invokestatic 36, 3) := by decide +kernel
theorem dX3_steps_133 : decode cX3_steps 133 = .ok (.iand, 1) := by decide +kernel
theorem dX3_steps_134 : decode cX3_steps 134 = .ok (.istore 8, 2) := by decide +kernel
theorem dX3_steps_136 : decode cX3_steps 136 = .ok (.iload 6, 2) := by decide +kernel
theorem dX3_steps_138 : decode cX3_steps 138 = .ok (.bipush 9, 2) := by decide +kernel
theorem dX3_steps_140 : decode cX3_steps 140 = .ok (.idiv, 1) := by decide +kernel
theorem dX3_steps_141 : decode cX3_steps 141 = .ok (.istore 6, 2) := by decide +kernel
theorem dX3_steps_143 : decode cX3_steps 143 = .ok (.iinc 9 1, 3) := by decide +kernel
theorem dX3_steps_146 : decode cX3_steps 146 = .ok (.goto (-73), 3) := by decide +kernel
theorem dX3_steps_149 : decode cX3_steps 149 = .ok (.iload 8, 2) := by decide +kernel
theorem dX3_steps_151 : decode cX3_steps 151 = .ok (.ifCond .eq 28, 3) := by decide +kernel
theorem dX3_steps_154 : decode cX3_steps 154 = .ok (.iload 4, 2) := by decide +kernel
theorem dX3_steps_156 : decode cX3_steps 156 = .ok (.iconst (-1), 1) := by decide +kernel
theorem dX3_steps_157 : decode cX3_steps 157 = .ok (.if_icmp .eq 10, 3) := by decide +kernel
theorem dX3_steps_160 : decode cX3_steps 160 = .ok (.iload 7, 2) := by decide +kernel
theorem dX3_steps_162 : decode cX3_steps 162 = .ok (.iload 4, 2) := by decide +kernel
theorem dX3_steps_164 : decode cX3_steps 164 = .ok (.if_icmp .ge 15, 3) := by decide +kernel
theorem dX3_steps_167 : decode cX3_steps 167 = .ok (.aload_n 0, 1) := by decide +kernel
theorem dX3_steps_168 : decode cX3_steps 168 = .ok (.iload_n 1, 1) := by decide +kernel
theorem dX3_steps_169 : decode cX3_steps 169 = .ok (.invokevirtual 87, 3) := by decide +kernel
theorem dX3_steps_172 : decode cX3_steps 172 = .ok (.ifCond .eq 7, 3) := by decide +kernel
theorem dX3_steps_175 : decode cX3_steps 175 = .ok (.iload 7, 2) := by decide +kernel
theorem dX3_steps_177 : decode cX3_steps 177 = .ok (.istore 4, 2) := by decide +kernel
theorem dX3_steps_179 : decode cX3_steps 179 = .ok (.iinc 5 1, 3) := by decide +kernel
theorem dX3_steps_182 : decode cX3_steps 182 = .ok (.goto (-128), 3) := by decide +kernel
theorem dX3_steps_185 : decode cX3_steps 185 = .ok (.iconst 0, 1) := by decide +kernel
theorem dX3_steps_186 : decode cX3_steps 186 = .ok (.istore 5, 2) := by decide +kernel
theorem dX3_steps_188 : decode cX3_steps 188 = .ok (.iload 5, 2) := by decide +kernel
theorem dX3_steps_190 : decode cX3_steps 190 = .ok (.bipush 12, 2) := by decide +kernel
theorem dX3_steps_192 : decode cX3_steps 192 = .ok (.if_icmp .ge 17, 3) := by decide +kernel
theorem dX3_steps_195 : decode cX3_steps 195 = .ok (.aload_n 0, 1) := by decide +kernel
theorem dX3_steps_196 : decode cX3_steps 196 = .ok (.getfield 25, 3) := by decide +kernel
theorem dX3_steps_199 : decode cX3_steps 199 = .ok (.iload 5, 2) := by decide +kernel
theorem dX3_steps_201 : decode cX3_steps 201 = .ok (.iconst 0, 1) := by decide +kernel
theorem dX3_steps_202 : decode cX3_steps 202 = .ok (.iastore, 1) := by decide +kernel
theorem dX3_steps_203 : decode cX3_steps 203 = .ok (.iinc 5 1, 3) := by decide +kernel
theorem dX3_steps_206 : decode cX3_steps 206 = .ok (.goto (-18), 3) := by decide +kernel
theorem dX3_steps_209 : decode cX3_steps 209 = .ok (.iload 4, 2) := by decide +kernel
theorem dX3_steps_211 : decode cX3_steps 211 = .ok (.ireturn, 1) := by decide +kernel
set_option maxRecDepth 20000 in
theorem ggX3_hourOn_X3_ha : GoodIn wsX3_hourOn wsX3_ha := goodIn_r _ [14, 15, 35, 36, 37, 38, 39, 40, 41, 42] (by decide +kernel) (by decide +kernel)
set_option maxRecDepth 20000 in
theorem gX3_hourOn_X3_ha : GoodIn wsX3_hourOn (wsV RX3 44 RX3 yX3_ha wsX3_ha) := goodIn_app (goodIn_of _ (by decide +kernel)) ggX3_hourOn_X3_ha
set_option maxRecDepth 20000 in
theorem ggX3_hourOn_X3_tone : GoodIn wsX3_hourOn wsX3_tone := goodIn_r _ [19, 2, 10, 11, 12, 13, 14, 15, 20, 21, 22, 23, 24, 25, 26, 27, 28, 29, 30, 35, 36, 37, 38, 39, 40, 41, 42] (by decide +kernel) (by decide +kernel)
set_option maxRecDepth 20000 in
theorem gX3_hourOn_X3_tone : GoodIn wsX3_hourOn (wsV RX3 55 RX3 yX3_tone wsX3_tone) := goodIn_app (goodIn_of _ (by decide +kernel)) ggX3_hourOn_X3_tone
set_option maxRecDepth 20000 in
theorem ggX3_hourOn_X3_put : GoodIn wsX3_hourOn wsX3_put := goodIn_r _ [34, 15, 35, 36, 37, 38, 39, 40, 41, 42] (by decide +kernel) (by decide +kernel)
set_option maxRecDepth 20000 in
theorem gX3_hourOn_X3_put : GoodIn wsX3_hourOn (wsV RX3 28 RX3 yX3_put wsX3_put) := goodIn_app (goodIn_of _ (by decide +kernel)) ggX3_hourOn_X3_put
theorem dX3_hourOn_0 : decode cX3_hourOn 0 = .ok (.iconst 0, 1) := by decide +kernel
theorem dX3_hourOn_1 : decode cX3_hourOn 1 = .ok (.istore_n 2, 1) := by decide +kernel
theorem dX3_hourOn_2 : decode cX3_hourOn 2 = .ok (.aload_n 0, 1) := by decide +kernel
theorem dX3_hourOn_3 : decode cX3_hourOn 3 = .ok (.getfield 19, 3) := by decide +kernel
theorem dX3_hourOn_6 : decode cX3_hourOn 6 = .ok (.aload_n 0, 1) := by decide +kernel
theorem dX3_hourOn_7 : decode cX3_hourOn 7 = .ok (.getfield 22, 3) := by decide +kernel
theorem dX3_hourOn_10 : decode cX3_hourOn 10 = .ok (.iconst 0, 1) := by decide +kernel
theorem dX3_hourOn_11 : decode cX3_hourOn 11 = .ok (.iaload, 1) := by decide +kernel
theorem dX3_hourOn_12 : decode cX3_hourOn 12 = .ok (.bipush 12, 2) := by decide +kernel
theorem dX3_hourOn_14 : decode cX3_hourOn 14 = .ok (.irem, 1) := by decide +kernel
theorem dX3_hourOn_15 : decode cX3_hourOn 15 = .ok (.iaload, 1) := by decide +kernel
theorem dX3_hourOn_16 : decode cX3_hourOn 16 = .ok (.istore_n 3, 1) := by decide +kernel
theorem dX3_hourOn_17 : decode cX3_hourOn 17 = .ok (.iconst 0, 1) := by decide +kernel
theorem dX3_hourOn_18 : decode cX3_hourOn 18 = .ok (.istore 4, 2) := by decide +kernel
theorem dX3_hourOn_20 : decode cX3_hourOn 20 = .ok (.iload 4, 2) := by decide +kernel
theorem dX3_hourOn_22 : decode cX3_hourOn 22 = .ok (.bipush 12, 2) := by decide +kernel
theorem dX3_hourOn_24 : decode cX3_hourOn 24 = .ok (.if_icmp .ge 108, 3) := by decide +kernel
theorem dX3_hourOn_27 : decode cX3_hourOn 27 = .ok (.aload_n 0, 1) := by decide +kernel
theorem dX3_hourOn_28 : decode cX3_hourOn 28 = .ok (.iload 4, 2) := by decide +kernel
theorem dX3_hourOn_30 : decode cX3_hourOn 30 = .ok (.iconst 4, 1) := by decide +kernel
theorem dX3_hourOn_31 : decode cX3_hourOn 31 = .ok (.invokevirtual 44, 3) := by decide +kernel
theorem dX3_hourOn_34 : decode cX3_hourOn 34 = .ok (.ifCond .ne 6, 3) := by decide +kernel
theorem dX3_hourOn_37 : decode cX3_hourOn 37 = .ok (.goto 89, 3) := by decide +kernel
theorem dX3_hourOn_40 : decode cX3_hourOn 40 = .ok (.iconst 0, 1) := by decide +kernel
theorem dX3_hourOn_41 : decode cX3_hourOn 41 = .ok (.aload_n 0, 1) := by decide +kernel
theorem dX3_hourOn_42 : decode cX3_hourOn 42 = .ok (.iload 4, 2) := by decide +kernel
theorem dX3_hourOn_44 : decode cX3_hourOn 44 = .ok (.iconst 3, 1) := by decide +kernel
theorem dX3_hourOn_45 : decode cX3_hourOn 45 = .ok (.invokevirtual 44, 3) := by decide +kernel
theorem dX3_hourOn_48 : decode cX3_hourOn 48 = .ok (.iload_n 1, 1) := by decide +kernel
theorem dX3_hourOn_49 : decode cX3_hourOn 49 = .ok (.aload_n 0, 1) := by decide +kernel
theorem dX3_hourOn_50 : decode cX3_hourOn 50 = .ok (.iload 4, 2) := by decide +kernel
theorem dX3_hourOn_52 : decode cX3_hourOn 52 = .ok (.invokevirtual 55, 3) := by decide +kernel
theorem dX3_hourOn_55 : decode cX3_hourOn 55 = .ok (.imul, 1) := by decide +kernel
theorem dX3_hourOn_56 : decode cX3_hourOn 56 = .ok (.sipush 1000, 3) := by decide +kernel
theorem dX3_hourOn_59 : decode cX3_hourOn 59 = .ok (.idiv, 1) := by decide +kernel
theorem dX3_hourOn_60 : decode cX3_hourOn 60 = .ok (.iadd, 1) := by decide +kernel
theorem dX3_hourOn_61 : decode cX3_hourOn 61 = .ok (.iconst 2, 1) := by decide +kernel
theorem dX3_hourOn_62 : decode cX3_hourOn 62 = .ok (.isub, 1) := by decide +kernel
theorem dX3_hourOn_63 : decode cX3_hourOn 63 = .ok (.invokestatic 90, 3) := by decide +kernel
theorem dX3_hourOn_66 : decode cX3_hourOn 66 = .ok (.istore 5, 2) := by decide +kernel
theorem dX3_hourOn_68 : decode cX3_hourOn 68 = .ok (.iload 5, 2) := by decide +kernel
theorem dX3_hourOn_70 : decode cX3_hourOn 70 = .ok (.bipush 100, 2) := by decide +kernel
theorem dX3_hourOn_72 : decode cX3_hourOn 72 = .ok (.if_icmp .le 45, 3) := by decide +kernel
theorem dX3_hourOn_75 : decode cX3_hourOn 75 = .ok (.aload_n 0, 1) := by decide +kernel
theorem dX3_hourOn_76 : decode cX3_hourOn 76 = .ok (.iload 4, 2) := by decide +kernel
theorem dX3_hourOn_78 : decode cX3_hourOn 78 = .ok (.iconst 4, 1) := by decide +kernel
theorem dX3_hourOn_79 : decode cX3_hourOn 79 = .ok (.iconst 0, 1) := by decide +kernel
theorem dX3_hourOn_80 : decode cX3_hourOn 80 = .ok (.invokevirtual 28, 3) := by decide +kernel
theorem dX3_hourOn_83 : decode cX3_hourOn 83 = .ok (.aload_n 0, 1) := by decide +kernel
theorem dX3_hourOn_84 : decode cX3_hourOn 84 = .ok (.iload 4, 2) := by decide +kernel
theorem dX3_hourOn_86 : decode cX3_hourOn 86 = .ok (.iconst 2, 1) := by decide +kernel
theorem dX3_hourOn_87 : decode cX3_hourOn 87 = .ok (.iconst 0, 1) := by decide +kernel
theorem dX3_hourOn_88 : decode cX3_hourOn 88 = .ok (.invokevirtual 28, 3) := by decide +kernel
theorem dX3_hourOn_91 : decode cX3_hourOn 91 = .ok (.aload_n 0, 1) := by decide +kernel
theorem dX3_hourOn_92 : decode cX3_hourOn 92 = .ok (.iload 4, 2) := by decide +kernel
theorem dX3_hourOn_94 : decode cX3_hourOn 94 = .ok (.iconst 5, 1) := by decide +kernel
theorem dX3_hourOn_95 : decode cX3_hourOn 95 = .ok (.aload_n 0, 1) := by decide +kernel
theorem dX3_hourOn_96 : decode cX3_hourOn 96 = .ok (.iload 4, 2) := by decide +kernel
theorem dX3_hourOn_98 : decode cX3_hourOn 98 = .ok (.iconst 5, 1) := by decide +kernel
theorem dX3_hourOn_99 : decode cX3_hourOn 99 = .ok (.invokevirtual 44, 3) := by decide +kernel
theorem dX3_hourOn_102 : decode cX3_hourOn 102 = .ok (.iconst 1, 1) := by decide +kernel
theorem dX3_hourOn_103 : decode cX3_hourOn 103 = .ok (.iadd, 1) := by decide +kernel
theorem dX3_hourOn_104 : decode cX3_hourOn 104 = .ok (.invokevirtual 28, 3) := by decide +kernel
theorem dX3_hourOn_107 : decode cX3_hourOn 107 = .ok (.iconst 0, 1) := by decide +kernel
theorem dX3_hourOn_108 : decode cX3_hourOn 108 = .ok (.istore 5, 2) := by decide +kernel
theorem dX3_hourOn_110 : decode cX3_hourOn 110 = .ok (.iload_n 2, 1) := by decide +kernel
theorem dX3_hourOn_111 : decode cX3_hourOn 111 = .ok (.iconst 1, 1) := by decide +kernel
theorem dX3_hourOn_112 : decode cX3_hourOn 112 = .ok (.iload 4, 2) := by decide +kernel
theorem dX3_hourOn_114 : decode cX3_hourOn 114 = .ok (.ishl, 1) := by decide +kernel
theorem dX3_hourOn_115 : decode cX3_hourOn 115 = .ok (.ior, 1) := by decide +kernel
theorem dX3_hourOn_116 : decode cX3_hourOn 116 = .ok (.istore_n 2, 1) := by decide +kernel
theorem dX3_hourOn_117 : decode cX3_hourOn 117 = .ok (.aload_n 0, 1) := by decide +kernel
theorem dX3_hourOn_118 : decode cX3_hourOn 118 = .ok (.iload 4, 2) := by decide +kernel
theorem dX3_hourOn_120 : decode cX3_hourOn 120 = .ok (.iconst 3, 1) := by decide +kernel
theorem dX3_hourOn_121 : decode cX3_hourOn 121 = .ok (.iload 5, 2) := by decide +kernel
theorem dX3_hourOn_123 : decode cX3_hourOn 123 = .ok (.invokevirtual 28, 3) := by decide +kernel
theorem dX3_hourOn_126 : decode cX3_hourOn 126 = .ok (.iinc 4 1, 3) := by decide +kernel
theorem dX3_hourOn_129 : decode cX3_hourOn 129 = .ok (.goto (-109), 3) := by decide +kernel
theorem dX3_hourOn_132 : decode cX3_hourOn 132 = .ok (.iconst 0, 1) := by decide +kernel
theorem dX3_hourOn_133 : decode cX3_hourOn 133 = .ok (.istore 4, 2) := by decide +kernel
theorem dX3_hourOn_135 : decode cX3_hourOn 135 = .ok (.iload 4, 2) := by decide +kernel
theorem dX3_hourOn_137 : decode cX3_hourOn 137 = .ok (.bipush 12, 2) := by decide +kernel
theorem dX3_hourOn_139 : decode cX3_hourOn 139 = .ok (.if_icmp .ge 78, 3) := by decide +kernel
theorem dX3_hourOn_142 : decode cX3_hourOn 142 = .ok (.aload_n 0, 1) := by decide +kernel
theorem dX3_hourOn_143 : decode cX3_hourOn 143 = .ok (.iload 4, 2) := by decide +kernel
theorem dX3_hourOn_145 : decode cX3_hourOn 145 = .ok (.iconst 4, 1) := by decide +kernel
theorem dX3_hourOn_146 : decode cX3_hourOn 146 = .ok (.invokevirtual 44, 3) := by decide +kernel
theorem dX3_hourOn_149 : decode cX3_hourOn 149 = .ok (.ifCond .ne 6, 3) := by decide +kernel
theorem dX3_hourOn_152 : decode cX3_hourOn 152 = .ok (.goto 59, 3) := by decide +kernel
theorem dX3_hourOn_155 : decode cX3_hourOn 155 = .ok (.aload_n 0, 1) := by decide +kernel
theorem dX3_hourOn_156 : decode cX3_hourOn 156 = .ok (.iload 4, 2) := by decide +kernel
theorem dX3_hourOn_158 : decode cX3_hourOn 158 = .ok (.iconst 3, 1) := by decide +kernel
theorem dX3_hourOn_159 : decode cX3_hourOn 159 = .ok (.invokevirtual 44, 3) := by decide +kernel
theorem dX3_hourOn_162 : decode cX3_hourOn 162 = .ok (.bipush 50, 2) := by decide +kernel
theorem dX3_hourOn_164 : decode cX3_hourOn 164 = .ok (.if_icmp .lt 7, 3) := by decide +kernel
theorem dX3_hourOn_167 : decode cX3_hourOn 167 = .ok (.iconst (-1), 1) := by decide +kernel
theorem dX3_hourOn_168 : decode cX3_hourOn 168 = .ok (.goto 14, 3) := by decide +kernel
theorem dX3_hourOn_171 : decode cX3_hourOn 171 = .ok (.iload_n 3, 1) := by decide +kernel
theorem dX3_hourOn_172 : decode cX3_hourOn 172 = .ok (.bipush 6, 2) := by decide +kernel
theorem dX3_hourOn_174 : decode cX3_hourOn 174 = .ok (.if_icmp .lt 7, 3) := by decide +kernel
theorem dX3_hourOn_177 : decode cX3_hourOn 177 = .ok (.iconst 1, 1) := by decide +kernel
theorem dX3_hourOn_178 : decode cX3_hourOn 178 = .ok (.goto 4, 3) := by decide +kernel
theorem dX3_hourOn_181 : decode cX3_hourOn 181 = .ok (.iconst 0, 1) := by decide +kernel
theorem dX3_hourOn_182 : decode cX3_hourOn 182 = .ok (.istore 5, 2) := by decide +kernel
theorem dX3_hourOn_184 : decode cX3_hourOn 184 = .ok (.aload_n 0, 1) := by decide +kernel
theorem dX3_hourOn_185 : decode cX3_hourOn 185 = .ok (.iload 4, 2) := by decide +kernel
theorem dX3_hourOn_187 : decode cX3_hourOn 187 = .ok (.iconst 2, 1) := by decide +kernel
theorem dX3_hourOn_188 : decode cX3_hourOn 188 = .ok (.bipush (-50), 2) := by decide +kernel
theorem dX3_hourOn_190 : decode cX3_hourOn 190 = .ok (.bipush 50, 2) := by decide +kernel
theorem dX3_hourOn_192 : decode cX3_hourOn 192 = .ok (.aload_n 0, 1) := by decide +kernel
theorem dX3_hourOn_193 : decode cX3_hourOn 193 = .ok (.iload 4, 2) := by decide +kernel
theorem dX3_hourOn_195 : decode cX3_hourOn 195 = .ok (.iconst 2, 1) := by decide +kernel
theorem dX3_hourOn_196 : decode cX3_hourOn 196 = .ok (.invokevirtual 44, 3) := by decide +kernel
theorem dX3_hourOn_199 : decode cX3_hourOn 199 = .ok (.iload 5, 2) := by decide +kernel
theorem dX3_hourOn_201 : decode cX3_hourOn 201 = .ok (.iadd, 1) := by decide +kernel
theorem dX3_hourOn_202 : decode cX3_hourOn 202 = .ok (.invokestatic 93, 3) := by decide +kernel
theorem dX3_hourOn_205 : decode cX3_hourOn 205 = .ok (.invokestatic 90, 3) := by decide +kernel
theorem dX3_hourOn_208 : decode cX3_hourOn 208 = .ok (.invokevirtual 28, 3) := by decide +kernel
theorem dX3_hourOn_211 : decode cX3_hourOn 211 = .ok (.iinc 4 1, 3) := by decide +kernel
theorem dX3_hourOn_214 : decode cX3_hourOn 214 = .ok (.goto (-79), 3) := by decide +kernel
theorem dX3_hourOn_217 : decode cX3_hourOn 217 = .ok (.aload_n 0, 1) := by decide +kernel
theorem dX3_hourOn_218 : decode cX3_hourOn 218 = .ok (.getfield 22, 3) := by decide +kernel
theorem dX3_hourOn_221 : decode cX3_hourOn 221 = .ok (.iconst 1, 1) := by decide +kernel
theorem dX3_hourOn_222 : decode cX3_hourOn 222 = .ok (.iconst 0, 1) := by decide +kernel
theorem dX3_hourOn_223 : decode cX3_hourOn 223 = .ok (.bipush 30, 2) := by decide +kernel
theorem dX3_hourOn_225 : decode cX3_hourOn 225 = .ok (.aload_n 0, 1) := by decide +kernel
theorem dX3_hourOn_226 : decode cX3_hourOn 226 = .ok (.getfield 22, 3) := by decide +kernel
theorem dX3_hourOn_229 : decode cX3_hourOn 229 = .ok (.iconst 1, 1) := by decide +kernel
theorem dX3_hourOn_230 : decode cX3_hourOn 230 = .ok (.iaload, 1) := by decide +kernel
theorem dX3_hourOn_231 : decode cX3_hourOn 231 = .ok (.iload_n 3, 1) := by decide +kernel
theorem dX3_hourOn_232 : decode cX3_hourOn 232 = .ok (.iconst 5, 1) := by decide +kernel
theorem dX3_hourOn_233 : decode cX3_hourOn 233 = .ok (.if_icmp .lt 7, 3) := by decide +kernel
theorem dX3_hourOn_236 : decode cX3_hourOn 236 = .ok (.iconst 1, 1) := by decide +kernel
theorem dX3_hourOn_237 : decode cX3_hourOn 237 = .ok (.goto 4, 3) := by decide +kernel
theorem dX3_hourOn_240 : decode cX3_hourOn 240 = .ok (.iconst (-1), 1) := by decide +kernel
theorem dX3_hourOn_241 : decode cX3_hourOn 241 = .ok (.iadd, 1) := by decide +kernel
theorem dX3_hourOn_242 : decode cX3_hourOn 242 = .ok (.invokestatic 93, 3) := by decide +kernel
theorem dX3_hourOn_245 : decode cX3_hourOn 245 = .ok (.invokestatic 90, 3) := by decide +kernel
theorem dX3_hourOn_248 : decode cX3_hourOn 248 = .ok (.iastore, 1) := by decide +kernel
theorem dX3_hourOn_249 : decode cX3_hourOn 249 = .ok (.aload_n 0, 1) := by decide +kernel
theorem dX3_hourOn_250 : decode cX3_hourOn 250 = .ok (.getfield 22, 3) := by decide +kernel
theorem dX3_hourOn_253 : decode cX3_hourOn 253 = .ok (.iconst 0, 1) := by decide +kernel
theorem dX3_hourOn_254 : decode cX3_hourOn 254 = .ok (.dup2, 1) := by decide +kernel
theorem dX3_hourOn_255 : decode cX3_hourOn 255 = .ok (.iaload, 1) := by decide +kernel
theorem dX3_hourOn_256 : decode cX3_hourOn 256 = .ok (.iconst 1, 1) := by decide +kernel
theorem dX3_hourOn_257 : decode cX3_hourOn 257 = .ok (.iadd, 1) := by decide +kernel
theorem dX3_hourOn_258 : decode cX3_hourOn 258 = .ok (.iastore, 1) := by decide +kernel
theorem dX3_hourOn_259 : decode cX3_hourOn 259 = .ok (.iload_n 2, 1) := by decide +kernel
theorem dX3_hourOn_260 : decode cX3_hourOn 260 = .ok (.ireturn, 1) := by decide +kernel
set_option maxRecDepth 20000 in
theorem ggX3_hourOn__X3_hourOn : GoodIn wsX3_hourOn_ wsX3_hourOn := goodIn_r _ [7, 8, 2, 9, 10, 11, 12, 13, 14, 15, 16, 17, 18, 6, 19, 20, 21, 22, 23, 24, 25, 26, 27, 28, 29, 30, 31, 32, 33, 34, 35, 36, 37, 38, 39, 40, 41, 42, 43, 44, 45, 46, 47] (by decide +kernel) (by decide +kernel)
set_option maxRecDepth 20000 in
theorem gX3_hourOn__X3_hourOn : GoodIn wsX3_hourOn_ (wsV RX3 96 RX3 yX3_hourOn wsX3_hourOn) := goodIn_app (goodIn_of _ (by decide +kernel)) ggX3_hourOn__X3_hourOn
theorem dX3_hourOn__0 : decode cX3_hourOn_ 0 = .ok (.aload_n 0, 1) := by decide +kernel
theorem dX3_hourOn__1 : decode cX3_hourOn_ 1 = .ok (.aload_n 0, 1) := by decide +kernel
theorem dX3_hourOn__2 : decode cX3_hourOn_ 2 = .ok (.getfield 16, 3) := by decide +kernel
theorem dX3_hourOn__5 : decode cX3_hourOn_ 5 = .ok (.aload_n 0, 1) := by decide +kernel
theorem dX3_hourOn__6 : decode cX3_hourOn_ 6 = .ok (.getfield 22, 3) := by decide +kernel
theorem dX3_hourOn__9 : decode cX3_hourOn_ 9 = .ok (.iconst 0, 1) := by decide +kernel
theorem dX3_hourOn__10 : decode cX3_hourOn_ 10 = .ok (.iaload, 1) := by decide +kernel
theorem dX3_hourOn__11 : decode cX3_hourOn_ 11 = .ok (.bipush 12, 2) := by decide +kernel
theorem dX3_hourOn__13 : decode cX3_hourOn_ 13 = .ok (.irem, 1) := by decide +kernel
theorem dX3_hourOn__14 : decode cX3_hourOn_ 14 = .ok (.iaload, 1) := by decide +kernel
theorem dX3_hourOn__15 : decode cX3_hourOn_ 15 = .ok (.invokevirtual 96, 3) := by decide +kernel
theorem dX3_hourOn__18 : decode cX3_hourOn_ 18 = .ok (.ireturn, 1) := by decide +kernel
set_option maxRecDepth 20000 in
theorem ggX3_pass_X3_isIn : GoodIn wsX3_pass wsX3_isIn := goodIn_r _ [5] (by decide +kernel) (by decide +kernel)
set_option maxRecDepth 20000 in
theorem gX3_pass_X3_isIn : GoodIn wsX3_pass (va_wsS RX3 36 yX3_isIn wsX3_isIn) := goodIn_app (goodIn_of _ (by decide +kernel)) ggX3_pass_X3_isIn
set_option maxRecDepth 20000 in
theorem ggX3_pass_X3_fail : GoodIn wsX3_pass wsX3_fail := goodIn_r _ [9, 1, 56, 57, 58, 59, 60, 61, 62, 63] (by decide +kernel) (by decide +kernel)
set_option maxRecDepth 20000 in
theorem gX3_pass_X3_fail : GoodIn wsX3_pass (wsV RX3 52 RX3 yX3_fail wsX3_fail) := goodIn_app (goodIn_of _ (by decide +kernel)) ggX3_pass_X3_fail
set_option maxRecDepth 20000 in
theorem ggX3_pass_X3_hourOn_ : GoodIn wsX3_pass wsX3_hourOn_ := goodIn_r _ [13, 14, 15, 16, 17, 18, 4, 19, 20, 21, 22, 23, 24, 25, 26, 27, 28, 29, 30, 31, 32, 33, 34, 35, 36, 37, 38, 39, 40, 41, 42, 43, 44, 2, 3, 5, 45, 46, 47, 48, 56, 57, 58, 59, 60, 61, 62, 63] (by decide +kernel) (by decide +kernel)
set_option maxRecDepth 20000 in
theorem gX3_pass_X3_hourOn_ : GoodIn wsX3_pass (wsV RX3 99 RX3 yX3_hourOn_ wsX3_hourOn_) := goodIn_app (goodIn_of _ (by decide +kernel)) ggX3_pass_X3_hourOn_
set_option maxRecDepth 20000 in
theorem ggX3_pass_J6_bitCount_0f7a4 : GoodIn wsX3_pass wsJ6_bitCount_0f7a4 := goodIn_r _ [52, 53, 54, 55] (by decide +kernel) (by decide +kernel)
set_option maxRecDepth 20000 in
theorem gX3_pass_J6_bitCount_0f7a4 : GoodIn wsX3_pass (va_wsS RX3 102 yJ6_bitCount_0f7a4 wsJ6_bitCount_0f7a4) := goodIn_app (goodIn_of _ (by decide +kernel)) ggX3_pass_J6_bitCount_0f7a4
theorem dX3_pass_0 : decode cX3_pass 0 = .ok (.aload_n 0, 1) := by decide +kernel
theorem dX3_pass_1 : decode cX3_pass 1 = .ok (.iconst 0, 1) := by decide +kernel
theorem dX3_pass_2 : decode cX3_pass 2 = .ok (.putfield 32, 3) := by decide +kernel
theorem dX3_pass_5 : decode cX3_pass 5 = .ok (.iload_n 1, 1) := by decide +kernel
theorem dX3_pass_6 : decode cX3_pass 6 = .ok (.iconst 1, 1) := by decide +kernel
theorem dX3_pass_7 : decode cX3_pass 7 = .ok (.sipush 200, 3) := by decide +kernel
theorem dX3_pass_10 : decode cX3_pass 10 = .ok (.invokestatic 36, 3) := by decide +kernel
theorem dX3_pass_13 : decode cX3_pass 13 = .ok (.ifCond .ne 9, 3) := by decide +kernel
theorem dX3_pass_16 : decode cX3_pass 16 = .ok (.aload_n 0, 1) := by decide +kernel
theorem dX3_pass_17 : decode cX3_pass 17 = .ok (.iconst 1, 1) := by decide +kernel
theorem dX3_pass_18 : decode cX3_pass 18 = .ok (.invokevirtual 52, 3) := by decide +kernel
theorem dX3_pass_21 : decode cX3_pass 21 = .ok (.ireturn, 1) := by decide +kernel
theorem dX3_pass_22 : decode cX3_pass 22 = .ok (.iconst 0, 1) := by decide +kernel
theorem dX3_pass_23 : decode cX3_pass 23 = .ok (.istore_n 2, 1) := by decide +kernel
theorem dX3_pass_24 : decode cX3_pass 24 = .ok (.iconst 0, 1) := by decide +kernel
theorem dX3_pass_25 : decode cX3_pass 25 = .ok (.istore_n 3, 1) := by decide +kernel
theorem dX3_pass_26 : decode cX3_pass 26 = .ok (.iload_n 3, 1) := by decide +kernel
theorem dX3_pass_27 : decode cX3_pass 27 = .ok (.iload_n 1, 1) := by decide +kernel
theorem dX3_pass_28 : decode cX3_pass 28 = .ok (.if_icmp .ge 19, 3) := by decide +kernel
theorem dX3_pass_31 : decode cX3_pass 31 = .ok (.iload_n 2, 1) := by decide +kernel
theorem dX3_pass_32 : decode cX3_pass 32 = .ok (.aload_n 0, 1) := by decide +kernel
theorem dX3_pass_33 : decode cX3_pass 33 = .ok (.invokevirtual 99, 3) := by decide +kernel
theorem dX3_pass_36 : decode cX3_pass 36 = .ok (.invokestatic 102, 3) := by decide +kernel
theorem dX3_pass_39 : decode cX3_pass 39 = .ok (.iadd, 1) := by decide +kernel
theorem dX3_pass_40 : decode cX3_pass 40 = .ok (.istore_n 2, 1) := by decide +kernel
theorem dX3_pass_41 : decode cX3_pass 41 = .ok (.iinc 3 1, 3) := by decide +kernel
theorem dX3_pass_44 : decode cX3_pass 44 = .ok (.goto (-18), 3) := by decide +kernel
theorem dX3_pass_47 : decode cX3_pass 47 = .ok (.iload_n 2, 1) := by decide +kernel
theorem dX3_pass_48 : decode cX3_pass 48 = .ok (.ireturn, 1) := by decide +kernel
set_option maxRecDepth 20000 in
theorem ggX3_counted_X3_isSounding : GoodIn wsX3_counted wsX3_isSounding := goodIn_r _ [7, 8, 9, 10, 6, 11, 12, 13, 14, 15, 16, 17, 18, 19, 20, 21, 22, 23, 24, 25, 26, 27, 28, 29, 1, 30, 31, 32, 33, 34, 35, 36, 37, 38, 39, 40, 41, 42, 43, 44, 45, 46, 47, 48] (by decide +kernel) (by decide +kernel)
set_option maxRecDepth 20000 in
theorem gX3_counted_X3_isSounding : GoodIn wsX3_counted (wsV RX3 87 RX3 yX3_isSounding wsX3_isSounding) := goodIn_app (goodIn_of _ (by decide +kernel)) ggX3_counted_X3_isSounding
set_option maxRecDepth 20000 in
theorem ggX3_counted_X3_ha : GoodIn wsX3_counted wsX3_ha := goodIn_r _ [16, 17, 41, 42, 43, 44, 45, 46, 47, 48] (by decide +kernel) (by decide +kernel)
set_option maxRecDepth 20000 in
theorem gX3_counted_X3_ha : GoodIn wsX3_counted (wsV RX3 44 RX3 yX3_ha wsX3_ha) := goodIn_app (goodIn_of _ (by decide +kernel)) ggX3_counted_X3_ha
theorem dX3_counted_0 : decode cX3_counted 0 = .ok (.iconst 0, 1) := by decide +kernel
theorem dX3_counted_1 : decode cX3_counted 1 = .ok (.istore_n 2, 1) := by decide +kernel
theorem dX3_counted_2 : decode cX3_counted 2 = .ok (.iload_n 1, 1) := by decide +kernel
theorem dX3_counted_3 : decode cX3_counted 3 = .ok (.tableswitch 86 0 4 #[33, 86, 40, 45, 79], 33) := by decide +kernel
theorem dX3_counted_36 : decode cX3_counted 36 = .ok (.aload_n 0, 1) := by decide +kernel
theorem dX3_counted_37 : decode cX3_counted 37 = .ok (.getfield 22, 3) := by decide +kernel
theorem dX3_counted_40 : decode cX3_counted 40 = .ok (.iconst 0, 1) := by decide +kernel
theorem dX3_counted_41 : decode cX3_counted 41 = .ok (.iaload, 1) := by decide +kernel
theorem dX3_counted_42 : decode cX3_counted 42 = .ok (.ireturn, 1) := by decide +kernel
theorem dX3_counted_43 : decode cX3_counted 43 = .ok (.aload_n 0, 1) := by decide +kernel
theorem dX3_counted_44 : decode cX3_counted 44 = .ok (.getfield 61, 3) := by decide +kernel
theorem dX3_counted_47 : decode cX3_counted 47 = .ok (.ireturn, 1) := by decide +kernel
theorem dX3_counted_48 : decode cX3_counted 48 = .ok (.iconst 0, 1) := by decide +kernel
theorem dX3_counted_49 : decode cX3_counted 49 = .ok (.istore_n 3, 1) := by decide +kernel
theorem dX3_counted_50 : decode cX3_counted 50 = .ok (.iload_n 3, 1) := by decide +kernel
theorem dX3_counted_51 : decode cX3_counted 51 = .ok (.aload_n 0, 1) := by decide +kernel
theorem dX3_counted_52 : decode cX3_counted 52 = .ok (.getfield 61, 3) := by decide +kernel
theorem dX3_counted_55 : decode cX3_counted 55 = .ok (.if_icmp .ge 25, 3) := by decide +kernel
theorem dX3_counted_58 : decode cX3_counted 58 = .ok (.iload_n 2, 1) := by decide +kernel
theorem dX3_counted_59 : decode cX3_counted 59 = .ok (.aload_n 0, 1) := by decide +kernel
theorem dX3_counted_60 : decode cX3_counted 60 = .ok (.iload_n 3, 1) := by decide +kernel
theorem dX3_counted_61 : decode cX3_counted 61 = .ok (.invokevirtual 87, 3) := by decide +kernel
theorem dX3_counted_64 : decode cX3_counted 64 = .ok (.ifCond .eq 7, 3) := by decide +kernel
theorem dX3_counted_67 : decode cX3_counted 67 = .ok (.iconst 1, 1) := by decide +kernel
theorem dX3_counted_68 : decode cX3_counted 68 = .ok (.goto 4, 3) := by decide +kernel
theorem dX3_counted_71 : decode cX3_counted 71 = .ok (.iconst 0, 1) := by decide +kernel
theorem dX3_counted_72 : decode cX3_counted 72 = .ok (.iadd, 1) := by decide +kernel
theorem dX3_counted_73 : decode cX3_counted 73 = .ok (.istore_n 2, 1) := by decide +kernel
theorem dX3_counted_74 : decode cX3_counted 74 = .ok (.iinc 3 1, 3) := by decide +kernel
theorem dX3_counted_77 : decode cX3_counted 77 = .ok (.goto (-27), 3) := by decide +kernel
theorem dX3_counted_80 : decode cX3_counted 80 = .ok (.iload_n 2, 1) := by decide +kernel
theorem dX3_counted_81 : decode cX3_counted 81 = .ok (.ireturn, 1) := by decide +kernel
theorem dX3_counted_82 : decode cX3_counted 82 = .ok (.aload_n 0, 1) := by decide +kernel
theorem dX3_counted_83 : decode cX3_counted 83 = .ok (.getfield 22, 3) := by decide +kernel
theorem dX3_counted_86 : decode cX3_counted 86 = .ok (.iconst 1, 1) := by decide +kernel
theorem dX3_counted_87 : decode cX3_counted 87 = .ok (.iaload, 1) := by decide +kernel
theorem dX3_counted_88 : decode cX3_counted 88 = .ok (.ireturn, 1) := by decide +kernel
theorem dX3_counted_89 : decode cX3_counted 89 = .ok (.iload_n 1, 1) := by decide +kernel
theorem dX3_counted_90 : decode cX3_counted 90 = .ok (.iconst 1, 1) := by decide +kernel
theorem dX3_counted_91 : decode cX3_counted 91 = .ok (.if_icmp .ne 7, 3) := by decide +kernel
theorem dX3_counted_94 : decode cX3_counted 94 = .ok (.iconst 4, 1) := by decide +kernel
theorem dX3_counted_95 : decode cX3_counted 95 = .ok (.goto 23, 3) := by decide +kernel
theorem dX3_counted_98 : decode cX3_counted 98 = .ok (.iload_n 1, 1) := by decide +kernel
theorem dX3_counted_99 : decode cX3_counted 99 = .ok (.iconst 5, 1) := by decide +kernel
theorem dX3_counted_100 : decode cX3_counted 100 = .ok (.if_icmp .ne 7, 3) := by decide +kernel
theorem dX3_counted_103 : decode cX3_counted 103 = .ok (.iconst 1, 1) := by decide +kernel
theorem dX3_counted_104 : decode cX3_counted 104 = .ok (.goto 14, 3) := by decide +kernel
theorem dX3_counted_107 : decode cX3_counted 107 = .ok (.iload_n 1, 1) := by decide +kernel
theorem dX3_counted_108 : decode cX3_counted 108 = .ok (.bipush 6, 2) := by decide +kernel
theorem dX3_counted_110 : decode cX3_counted 110 = .ok (.if_icmp .ne 7, 3) := by decide +kernel
theorem dX3_counted_113 : decode cX3_counted 113 = .ok (.iconst 3, 1) := by decide +kernel
theorem dX3_counted_114 : decode cX3_counted 114 = .ok (.goto 4, 3) := by decide +kernel
theorem dX3_counted_117 : decode cX3_counted 117 = .ok (.iconst 5, 1) := by decide +kernel
theorem dX3_counted_118 : decode cX3_counted 118 = .ok (.istore_n 3, 1) := by decide +kernel
theorem dX3_counted_119 : decode cX3_counted 119 = .ok (.iconst 0, 1) := by decide +kernel
theorem dX3_counted_120 : decode cX3_counted 120 = .ok (.istore 4, 2) := by decide +kernel
theorem dX3_counted_122 : decode cX3_counted 122 = .ok (.iload 4, 2) := by decide +kernel
theorem dX3_counted_124 : decode cX3_counted 124 = .ok (.bipush 12, 2) := by decide +kernel
theorem dX3_counted_126 : decode cX3_counted 126 = .ok (.if_icmp .ge 19, 3) := by decide +kernel
theorem dX3_counted_129 : decode cX3_counted 129 = .ok (.iload_n 2, 1) := by decide +kernel
theorem dX3_counted_130 : decode cX3_counted 130 = .ok (.aload_n 0, 1) := by decide +kernel
theorem dX3_counted_131 : decode cX3_counted 131 = .ok (.iload 4, 2) := by decide +kernel
theorem dX3_counted_133 : decode cX3_counted 133 = .ok (.iload_n 3, 1) := by decide +kernel
theorem dX3_counted_134 : decode cX3_counted 134 = .ok (.invokevirtual 44, 3) := by decide +kernel
theorem dX3_counted_137 : decode cX3_counted 137 = .ok (.iadd, 1) := by decide +kernel
theorem dX3_counted_138 : decode cX3_counted 138 = .ok (.istore_n 2, 1) := by decide +kernel
theorem dX3_counted_139 : decode cX3_counted 139 = .ok (.iinc 4 1, 3) := by decide +kernel
theorem dX3_counted_142 : decode cX3_counted 142 = .ok (.goto (-20), 3) := by decide +kernel
theorem dX3_counted_145 : decode cX3_counted 145 = .ok (.iload_n 2, 1) := by decide +kernel
theorem dX3_counted_146 : decode cX3_counted 146 = .ok (.ireturn, 1) := by decide +kernel
set_option maxRecDepth 20000 in
theorem ggX3_count_X3_isIn : GoodIn wsX3_count wsX3_isIn := goodIn_r _ [5] (by decide +kernel) (by decide +kernel)
set_option maxRecDepth 20000 in
theorem gX3_count_X3_isIn : GoodIn wsX3_count (va_wsS RX3 36 yX3_isIn wsX3_isIn) := goodIn_app (goodIn_of _ (by decide +kernel)) ggX3_count_X3_isIn
set_option maxRecDepth 20000 in
theorem ggX3_count_X3_counted : GoodIn wsX3_count wsX3_counted := goodIn_r _ [9, 10, 11, 12, 13, 14, 4, 15, 16, 17, 18, 19, 20, 21, 22, 23, 24, 25, 26, 27, 28, 29, 30, 31, 32, 33, 34, 35, 36, 37, 38, 39, 40, 41, 42, 43, 44, 45, 2, 3, 5, 50, 51, 52, 53, 54, 55, 56, 57] (by decide +kernel) (by decide +kernel)
set_option maxRecDepth 20000 in
theorem gX3_count_X3_counted : GoodIn wsX3_count (wsV RX3 107 RX3 yX3_counted wsX3_counted) := goodIn_app (goodIn_of _ (by decide +kernel)) ggX3_count_X3_counted
set_option maxRecDepth 20000 in
theorem ggX3_count_X3_fail : GoodIn wsX3_count wsX3_fail := goodIn_r _ [49, 1, 50, 51, 52, 53, 54, 55, 56, 57] (by decide +kernel) (by decide +kernel)
set_option maxRecDepth 20000 in
theorem gX3_count_X3_fail : GoodIn wsX3_count (wsV RX3 52 RX3 yX3_fail wsX3_fail) := goodIn_app (goodIn_of _ (by decide +kernel)) ggX3_count_X3_fail
theorem dX3_count_0 : decode cX3_count 0 = .ok (.aload_n 0, 1) := by decide +kernel
theorem dX3_count_1 : decode cX3_count 1 = .ok (.iconst 0, 1) := by decide +kernel
theorem dX3_count_2 : decode cX3_count 2 = .ok (.putfield 32, 3) := by decide +kernel
theorem dX3_count_5 : decode cX3_count 5 = .ok (.iload_n 1, 1) := by decide +kernel
theorem dX3_count_6 : decode cX3_count 6 = .ok (.iconst 0, 1) := by decide +kernel
theorem dX3_count_7 : decode cX3_count 7 = .ok (.bipush 7, 2) := by decide +kernel
theorem dX3_count_9 : decode cX3_count 9 = .ok (.invokestatic 36, 3) := by decide +kernel
theorem dX3_count_12 : decode cX3_count 12 = .ok (.ifCond .eq 11, 3) := by decide +kernel
theorem dX3_count_15 : decode cX3_count 15 = .ok (.aload_n 0, 1) := by decide +kernel
theorem dX3_count_16 : decode cX3_count 16 = .ok (.iload_n 1, 1) := by decide +kernel
theorem dX3_count_17 : decode cX3_count 17 = .ok (.invokevirtual 107, 3) := by decide +kernel
theorem dX3_count_20 : decode cX3_count 20 = .ok (.goto 8, 3) := by decide +kernel
theorem dX3_count_23 : decode cX3_count 23 = .ok (.aload_n 0, 1) := by decide +kernel
theorem dX3_count_24 : decode cX3_count 24 = .ok (.iconst 1, 1) := by decide +kernel
theorem dX3_count_25 : decode cX3_count 25 = .ok (.invokevirtual 52, 3) := by decide +kernel
theorem dX3_count_28 : decode cX3_count 28 = .ok (.ireturn, 1) := by decide +kernel
theorem dX3_kept_0 : decode cX3_kept 0 = .ok (.iconst 2, 1) := by decide +kernel
theorem dX3_kept_1 : decode cX3_kept 1 = .ok (.anewarray 110, 3) := by decide +kernel
theorem dX3_kept_4 : decode cX3_kept 4 = .ok (.dup, 1) := by decide +kernel
theorem dX3_kept_5 : decode cX3_kept 5 = .ok (.iconst 0, 1) := by decide +kernel
theorem dX3_kept_6 : decode cX3_kept 6 = .ok (.aload_n 0, 1) := by decide +kernel
theorem dX3_kept_7 : decode cX3_kept 7 = .ok (.getfield 9, 3) := by decide +kernel
theorem dX3_kept_10 : decode cX3_kept 10 = .ok (.invokevirtual 111, 3) := by decide +kernel
theorem dX3_kept_13 : decode cX3_kept 13 = .ok (.checkcast 110, 3) := by decide +kernel
theorem dX3_kept_16 : decode cX3_kept 16 = .ok (.aastore, 1) := by decide +kernel
theorem dX3_kept_17 : decode cX3_kept 17 = .ok (.dup, 1) := by decide +kernel
theorem dX3_kept_18 : decode cX3_kept 18 = .ok (.iconst 1, 1) := by decide +kernel
theorem dX3_kept_19 : decode cX3_kept 19 = .ok (.aload_n 0, 1) := by decide +kernel
theorem dX3_kept_20 : decode cX3_kept 20 = .ok (.getfield 22, 3) := by decide +kernel
theorem dX3_kept_23 : decode cX3_kept 23 = .ok (.invokevirtual 111, 3) := by decide +kernel
theorem dX3_kept_26 : decode cX3_kept 26 = .ok (.checkcast 110, 3) := by decide +kernel
theorem dX3_kept_29 : decode cX3_kept 29 = .ok (.aastore, 1) := by decide +kernel
theorem dX3_kept_30 : decode cX3_kept 30 = .ok (.areturn, 1) := by decide +kernel
theorem dX3_bringBack_0 : decode cX3_bringBack 0 = .ok (.aload_n 1, 1) := by decide +kernel
theorem dX3_bringBack_1 : decode cX3_bringBack 1 = .ok (.iconst 0, 1) := by decide +kernel
theorem dX3_bringBack_2 : decode cX3_bringBack 2 = .ok (.aaload, 1) := by decide +kernel
theorem dX3_bringBack_3 : decode cX3_bringBack 3 = .ok (.iconst 0, 1) := by decide +kernel
theorem dX3_bringBack_4 : decode cX3_bringBack 4 = .ok (.aload_n 0, 1) := by decide +kernel
theorem dX3_bringBack_5 : decode cX3_bringBack 5 = .ok (.getfield 9, 3) := by decide +kernel
theorem dX3_bringBack_8 : decode cX3_bringBack 8 = .ok (.iconst 0, 1) := by decide +kernel
theorem dX3_bringBack_9 : decode cX3_bringBack 9 = .ok (.aload_n 0, 1) := by decide +kernel
theorem dX3_bringBack_10 : decode cX3_bringBack 10 = .ok (.getfield 9, 3) := by decide +kernel
theorem dX3_bringBack_13 : decode cX3_bringBack 13 = .ok (.arraylength, 1) := by decide +kernel
theorem dX3_bringBack_14 : decode cX3_bringBack 14 = .ok (.invokestatic 64, 3) := by decide +kernel
theorem dX3_bringBack_17 : decode cX3_bringBack 17 = .ok (.aload_n 1, 1) := by decide +kernel
theorem dX3_bringBack_18 : decode cX3_bringBack 18 = .ok (.iconst 1, 1) := by decide +kernel
theorem dX3_bringBack_19 : decode cX3_bringBack 19 = .ok (.aaload, 1) := by decide +kernel
theorem dX3_bringBack_20 : decode cX3_bringBack 20 = .ok (.iconst 0, 1) := by decide +kernel
theorem dX3_bringBack_21 : decode cX3_bringBack 21 = .ok (.aload_n 0, 1) := by decide +kernel
theorem dX3_bringBack_22 : decode cX3_bringBack 22 = .ok (.getfield 22, 3) := by decide +kernel
theorem dX3_bringBack_25 : decode cX3_bringBack 25 = .ok (.iconst 0, 1) := by decide +kernel
theorem dX3_bringBack_26 : decode cX3_bringBack 26 = .ok (.aload_n 0, 1) := by decide +kernel
theorem dX3_bringBack_27 : decode cX3_bringBack 27 = .ok (.getfield 22, 3) := by decide +kernel
theorem dX3_bringBack_30 : decode cX3_bringBack 30 = .ok (.arraylength, 1) := by decide +kernel
theorem dX3_bringBack_31 : decode cX3_bringBack 31 = .ok (.invokestatic 64, 3) := by decide +kernel
theorem dX3_bringBack_34 : decode cX3_bringBack 34 = .ok (.return_, 1) := by decide +kernel
set_option maxRecDepth 20000 in
theorem ggX3_bears_X3_isString : GoodIn wsX3_bears wsX3_isString := goodIn_r _ [5, 6, 7, 4, 8] (by decide +kernel) (by decide +kernel)
set_option maxRecDepth 20000 in
theorem gX3_bears_X3_isString : GoodIn wsX3_bears (va_wsS RX3 40 yX3_isString wsX3_isString) := goodIn_app (goodIn_of _ (by decide +kernel)) ggX3_bears_X3_isString
set_option maxRecDepth 20000 in
theorem ggX3_bears_X3_fail : GoodIn wsX3_bears wsX3_fail := goodIn_r _ [12, 1, 62, 63, 64, 65, 66, 67, 68, 69] (by decide +kernel) (by decide +kernel)
set_option maxRecDepth 20000 in
theorem gX3_bears_X3_fail : GoodIn wsX3_bears (wsV RX3 52 RX3 yX3_fail wsX3_fail) := goodIn_app (goodIn_of _ (by decide +kernel)) ggX3_bears_X3_fail
set_option maxRecDepth 20000 in
theorem ggX3_bears_X3_ha : GoodIn wsX3_bears wsX3_ha := goodIn_r _ [16, 17, 62, 63, 64, 65, 66, 67, 68, 69] (by decide +kernel) (by decide +kernel)
set_option maxRecDepth 20000 in
theorem gX3_bears_X3_ha : GoodIn wsX3_bears (wsV RX3 44 RX3 yX3_ha wsX3_ha) := goodIn_app (goodIn_of _ (by decide +kernel)) ggX3_bears_X3_ha
set_option maxRecDepth 20000 in
theorem ggX3_bears_X3_kept : GoodIn wsX3_bears wsX3_kept := goodIn_r _ [21, 22, 17, 23, 24, 25, 26, 27, 28, 62, 63, 64, 65, 66, 67, 68, 69] (by decide +kernel) (by decide +kernel)
set_option maxRecDepth 20000 in
theorem gX3_bears_X3_kept : GoodIn wsX3_bears (wsV RX3 115 RX3 yX3_kept wsX3_kept) := goodIn_app (goodIn_of _ (by decide +kernel)) ggX3_bears_X3_kept
set_option maxRecDepth 20000 in
theorem ggX3_bears_X3_hourOn : GoodIn wsX3_bears wsX3_hourOn := goodIn_r _ [32, 33, 28, 34, 35, 36, 37, 38, 39, 40, 13, 14, 15, 4, 16, 17, 41, 42, 43, 44, 45, 46, 47, 48, 49, 2, 3, 5, 6, 7, 8, 50, 51, 52, 53, 62, 63, 64, 65, 66, 67, 68, 69] (by decide +kernel) (by decide +kernel)
set_option maxRecDepth 20000 in
theorem gX3_bears_X3_hourOn : GoodIn wsX3_bears (wsV RX3 96 RX3 yX3_hourOn wsX3_hourOn) := goodIn_app (goodIn_of _ (by decide +kernel)) ggX3_bears_X3_hourOn
set_option maxRecDepth 20000 in
theorem ggX3_bears_X3_bringBack : GoodIn wsX3_bears wsX3_bringBack := goodIn_r _ [57, 17, 58, 59, 60, 61, 28, 62, 63, 64, 65, 66, 67, 68, 69] (by decide +kernel) (by decide +kernel)
set_option maxRecDepth 20000 in
theorem gX3_bears_X3_bringBack : GoodIn wsX3_bears (wsV RX3 119 RX3 yX3_bringBack wsX3_bringBack) := goodIn_app (goodIn_of _ (by decide +kernel)) ggX3_bears_X3_bringBack
theorem dX3_bears_0 : decode cX3_bears 0 = .ok (.aload_n 0, 1) := by decide +kernel
theorem dX3_bears_1 : decode cX3_bears 1 = .ok (.iconst 0, 1) := by decide +kernel
theorem dX3_bears_2 : decode cX3_bears 2 = .ok (.putfield 32, 3) := by decide +kernel
theorem dX3_bears_5 : decode cX3_bears 5 = .ok (.iload_n 1, 1) := by decide +kernel
theorem dX3_bears_6 : decode cX3_bears 6 = .ok (.invokestatic 40, 3) := by decide +kernel
theorem dX3_bears_9 : decode cX3_bears 9 = .ok (.ifCond .ne 9, 3) := by decide +kernel
theorem dX3_bears_12 : decode cX3_bears 12 = .ok (.aload_n 0, 1) := by decide +kernel
theorem dX3_bears_13 : decode cX3_bears 13 = .ok (.iconst 1, 1) := by decide +kernel
theorem dX3_bears_14 : decode cX3_bears 14 = .ok (.invokevirtual 52, 3) := by decide +kernel
theorem dX3_bears_17 : decode cX3_bears 17 = .ok (.ireturn, 1) := by decide +kernel
theorem dX3_bears_18 : decode cX3_bears 18 = .ok (.aload_n 0, 1) := by decide +kernel
theorem dX3_bears_19 : decode cX3_bears 19 = .ok (.iload_n 1, 1) := by decide +kernel
theorem dX3_bears_20 : decode cX3_bears 20 = .ok (.iconst 4, 1) := by decide +kernel
theorem dX3_bears_21 : decode cX3_bears 21 = .ok (.invokevirtual 44, 3) := by decide +kernel
theorem dX3_bears_24 : decode cX3_bears 24 = .ok (.ifCond .ne 5, 3) := by decide +kernel
theorem dX3_bears_27 : decode cX3_bears 27 = .ok (.iconst (-1), 1) := by decide +kernel
theorem dX3_bears_28 : decode cX3_bears 28 = .ok (.ireturn, 1) := by decide +kernel
theorem dX3_bears_29 : decode cX3_bears 29 = .ok (.aload_n 0, 1) := by decide +kernel
theorem dX3_bears_30 : decode cX3_bears 30 = .ok (.invokevirtual 115, 3) := by decide +kernel
theorem dX3_bears_33 : decode cX3_bears 33 = .ok (.astore_n 2, 1) := by decide +kernel
theorem dX3_bears_34 : decode cX3_bears 34 = .ok (.iconst (-1), 1) := by decide +kernel
theorem dX3_bears_35 : decode cX3_bears 35 = .ok (.istore_n 3, 1) := by decide +kernel
theorem dX3_bears_36 : decode cX3_bears 36 = .ok (.iconst 0, 1) := by decide +kernel
theorem dX3_bears_37 : decode cX3_bears 37 = .ok (.istore 4, 2) := by decide +kernel
theorem dX3_bears_39 : decode cX3_bears 39 = .ok (.iload 4, 2) := by decide +kernel
theorem dX3_bears_41 : decode cX3_bears 41 = .ok (.bipush 20, 2) := by decide +kernel
theorem dX3_bears_43 : decode cX3_bears 43 = .ok (.if_icmp .gt 50, 3) := by decide +kernel
theorem dX3_bears_46 : decode cX3_bears 46 = .ok (.iconst 0, 1) := by decide +kernel
theorem dX3_bears_47 : decode cX3_bears 47 = .ok (.istore 5, 2) := by decide +kernel
theorem dX3_bears_49 : decode cX3_bears 49 = .ok (.iload 5, 2) := by decide +kernel
theorem dX3_bears_51 : decode cX3_bears 51 = .ok (.bipush 24, 2) := by decide +kernel
theorem dX3_bears_53 : decode cX3_bears 53 = .ok (.if_icmp .ge 16, 3) := by decide +kernel
theorem dX3_bears_56 : decode cX3_bears 56 = .ok (.aload_n 0, 1) := by decide +kernel
theorem dX3_bears_57 : decode cX3_bears 57 = .ok (.iload 4, 2) := by decide +kernel
theorem dX3_bears_59 : decode cX3_bears 59 = .ok (.invokevirtual 96, 3) := by decide +kernel
theorem dX3_bears_62 : decode cX3_bears 62 = .ok (.pop, 1) := by decide +kernel
theorem dX3_bears_63 : decode cX3_bears 63 = .ok (.iinc 5 1, 3) := by decide +kernel
theorem dX3_bears_66 : decode cX3_bears 66 = .ok (.goto (-17), 3) := by decide +kernel
theorem dX3_bears_69 : decode cX3_bears 69 = .ok (.aload_n 0, 1) := by decide +kernel
theorem dX3_bears_70 : decode cX3_bears 70 = .ok (.iload_n 1, 1) := by decide +kernel
theorem dX3_bears_71 : decode cX3_bears 71 = .ok (.iconst 4, 1) := by decide +kernel
theorem dX3_bears_72 : decode cX3_bears 72 = .ok (.invokevirtual 44, 3) := by decide +kernel
theorem dX3_bears_75 : decode cX3_bears 75 = .ok (.iconst 1, 1) := by decide +kernel
theorem dX3_bears_76 : decode cX3_bears 76 = .ok (.if_icmp .ne 6, 3) := by decide +kernel
theorem dX3_bears_79 : decode cX3_bears 79 = .ok (.iload 4, 2) := by decide +kernel
theorem dX3_bears_81 : decode cX3_bears 81 = .ok (.istore_n 3, 1) := by decide +kernel
theorem dX3_bears_82 : decode cX3_bears 82 = .ok (.aload_n 0, 1) := by decide +kernel
theorem dX3_bears_83 : decode cX3_bears 83 = .ok (.aload_n 2, 1) := by decide +kernel
theorem dX3_bears_84 : decode cX3_bears 84 = .ok (.invokevirtual 119, 3) := by decide +kernel
theorem dX3_bears_87 : decode cX3_bears 87 = .ok (.iinc 4 1, 3) := by decide +kernel
theorem dX3_bears_90 : decode cX3_bears 90 = .ok (.goto (-51), 3) := by decide +kernel
theorem dX3_bears_93 : decode cX3_bears 93 = .ok (.iload_n 3, 1) := by decide +kernel
theorem dX3_bears_94 : decode cX3_bears 94 = .ok (.ireturn, 1) := by decide +kernel
set_option maxRecDepth 20000 in
theorem ggX3_first_X3_kept : GoodIn wsX3_first wsX3_kept := goodIn_r _ [6, 7, 8, 9, 10, 11, 12, 13, 14, 68, 69, 70, 71, 72, 73, 74, 75] (by decide +kernel) (by decide +kernel)
set_option maxRecDepth 20000 in
theorem gX3_first_X3_kept : GoodIn wsX3_first (wsV RX3 115 RX3 yX3_kept wsX3_kept) := goodIn_app (goodIn_of _ (by decide +kernel)) ggX3_first_X3_kept
set_option maxRecDepth 20000 in
theorem ggX3_first_X3_hourOn_ : GoodIn wsX3_first wsX3_hourOn_ := goodIn_r _ [18, 19, 14, 20, 21, 22, 5, 23, 24, 25, 26, 27, 28, 29, 30, 31, 32, 33, 34, 35, 8, 36, 37, 38, 39, 40, 41, 42, 43, 44, 45, 46, 47, 48, 49, 50, 51, 52, 53, 54, 68, 69, 70, 71, 72, 73, 74, 75] (by decide +kernel) (by decide +kernel)
set_option maxRecDepth 20000 in
theorem gX3_first_X3_hourOn_ : GoodIn wsX3_first (wsV RX3 99 RX3 yX3_hourOn_ wsX3_hourOn_) := goodIn_app (goodIn_of _ (by decide +kernel)) ggX3_first_X3_hourOn_
set_option maxRecDepth 20000 in
theorem ggX3_first_X3_bringBack : GoodIn wsX3_first wsX3_bringBack := goodIn_r _ [58, 8, 59, 60, 61, 62, 14, 68, 69, 70, 71, 72, 73, 74, 75] (by decide +kernel) (by decide +kernel)
set_option maxRecDepth 20000 in
theorem gX3_first_X3_bringBack : GoodIn wsX3_first (wsV RX3 119 RX3 yX3_bringBack wsX3_bringBack) := goodIn_app (goodIn_of _ (by decide +kernel)) ggX3_first_X3_bringBack
set_option maxRecDepth 20000 in
theorem ggX3_first_J6_numberOfTrailingZeros_0f7a4 : GoodIn wsX3_first wsJ6_numberOfTrailingZeros_0f7a4 := goodIn_r _ [66, 67] (by decide +kernel) (by decide +kernel)
set_option maxRecDepth 20000 in
theorem gX3_first_J6_numberOfTrailingZeros_0f7a4 : GoodIn wsX3_first (va_wsS RX3 123 yJ6_numberOfTrailingZeros_0f7a4 wsJ6_numberOfTrailingZeros_0f7a4) := goodIn_app (goodIn_of _ (by decide +kernel)) ggX3_first_J6_numberOfTrailingZeros_0f7a4
theorem dX3_first_0 : decode cX3_first 0 = .ok (.aload_n 0, 1) := by decide +kernel
theorem dX3_first_1 : decode cX3_first 1 = .ok (.iconst 0, 1) := by decide +kernel
theorem dX3_first_2 : decode cX3_first 2 = .ok (.putfield 32, 3) := by decide +kernel
theorem dX3_first_5 : decode cX3_first 5 = .ok (.aload_n 0, 1) := by decide +kernel
theorem dX3_first_6 : decode cX3_first 6 = .ok (.invokevirtual 115, 3) := by decide +kernel
theorem dX3_first_9 : decode cX3_first 9 = .ok (.astore_n 1, 1) := by decide +kernel
theorem dX3_first_10 : decode cX3_first 10 = .ok (.iconst 0, 1) := by decide +kernel
theorem dX3_first_11 : decode cX3_first 11 = .ok (.istore_n 2, 1) := by decide +kernel
theorem dX3_first_12 : decode cX3_first 12 = .ok (.iconst 0, 1) := by decide +kernel
theorem dX3_first_13 : decode cX3_first 13 = .ok (.istore_n 3, 1) := by decide +kernel
theorem dX3_first_14 : decode cX3_first 14 = .ok (.iload_n 3, 1) := by decide +kernel
theorem dX3_first_15 : decode cX3_first 15 = .ok (.sipush 200, 3) := by decide +kernel
theorem dX3_first_18 : decode cX3_first 18 = .ok (.if_icmp .ge 18, 3) := by decide +kernel
theorem dX3_first_21 : decode cX3_first 21 = .ok (.iload_n 2, 1) := by decide +kernel
theorem dX3_first_22 : decode cX3_first 22 = .ok (.ifCond .ne 14, 3) := by decide +kernel
theorem dX3_first_25 : decode cX3_first 25 = .ok (.aload_n 0, 1) := by decide +kernel
theorem dX3_first_26 : decode cX3_first 26 = .ok (.invokevirtual 99, 3) := by decide +kernel
theorem dX3_first_29 : decode cX3_first 29 = .ok (.istore_n 2, 1) := by decide +kernel
theorem dX3_first_30 : decode cX3_first 30 = .ok (.iinc 3 1, 3) := by decide +kernel
theorem dX3_first_33 : decode cX3_first 33 = .ok (.goto (-19), 3) := by decide +kernel
theorem dX3_first_36 : decode cX3_first 36 = .ok (.aload_n 0, 1) := by decide +kernel
theorem dX3_first_37 : decode cX3_first 37 = .ok (.aload_n 1, 1) := by decide +kernel
theorem dX3_first_38 : decode cX3_first 38 = .ok (.invokevirtual 119, 3) := by decide +kernel
theorem dX3_first_41 : decode cX3_first 41 = .ok (.iload_n 2, 1) := by decide +kernel
theorem dX3_first_42 : decode cX3_first 42 = .ok (.ifCond .ne 7, 3) := by decide +kernel
theorem dX3_first_45 : decode cX3_first 45 = .ok (.iconst (-1), 1) := by decide +kernel
theorem dX3_first_46 : decode cX3_first 46 = .ok (.goto 7, 3) := by decide +kernel
theorem dX3_first_49 : decode cX3_first 49 = .ok (.iload_n 2, 1) := by decide +kernel
theorem dX3_first_50 : decode cX3_first 50 = .ok (.invokestatic 123, 3) := by decide +kernel
theorem dX3_first_53 : decode cX3_first 53 = .ok (.ireturn, 1) := by decide +kernel
set_option maxRecDepth 20000 in
theorem ggX3_holds_X3_isChord : GoodIn wsX3_holds wsX3_isChord := goodIn_r _ [6, 7, 8, 9, 5, 10, 88, 89, 90, 91, 92, 93, 94, 95] (by decide +kernel) (by decide +kernel)
set_option maxRecDepth 20000 in
theorem gX3_holds_X3_isChord : GoodIn wsX3_holds (wsV RX3 81 RX3 yX3_isChord wsX3_isChord) := goodIn_app (goodIn_of _ (by decide +kernel)) ggX3_holds_X3_isChord
set_option maxRecDepth 20000 in
theorem ggX3_holds_X3_fail : GoodIn wsX3_holds wsX3_fail := goodIn_r _ [14, 1, 88, 89, 90, 91, 92, 93, 94, 95] (by decide +kernel) (by decide +kernel)
set_option maxRecDepth 20000 in
theorem gX3_holds_X3_fail : GoodIn wsX3_holds (wsV RX3 52 RX3 yX3_fail wsX3_fail) := goodIn_app (goodIn_of _ (by decide +kernel)) ggX3_holds_X3_fail
set_option maxRecDepth 20000 in
theorem ggX3_holds_X3_kept : GoodIn wsX3_holds wsX3_kept := goodIn_r _ [18, 19, 20, 21, 22, 23, 24, 25, 26, 88, 89, 90, 91, 92, 93, 94, 95] (by decide +kernel) (by decide +kernel)
set_option maxRecDepth 20000 in
theorem gX3_holds_X3_kept : GoodIn wsX3_holds (wsV RX3 115 RX3 yX3_kept wsX3_kept) := goodIn_app (goodIn_of _ (by decide +kernel)) ggX3_holds_X3_kept
set_option maxRecDepth 20000 in
theorem ggX3_holds_X3_isSounding : GoodIn wsX3_holds wsX3_isSounding := goodIn_r _ [30, 31, 32, 33, 5, 34, 35, 36, 37, 38, 39, 20, 40, 41, 42, 43, 44, 45, 46, 47, 48, 49, 50, 51, 26, 52, 53, 54, 55, 56, 57, 58, 59, 8, 9, 10, 88, 89, 90, 91, 92, 93, 94, 95] (by decide +kernel) (by decide +kernel)
set_option maxRecDepth 20000 in
theorem gX3_holds_X3_isSounding : GoodIn wsX3_holds (wsV RX3 87 RX3 yX3_isSounding wsX3_isSounding) := goodIn_app (goodIn_of _ (by decide +kernel)) ggX3_holds_X3_isSounding
set_option maxRecDepth 20000 in
theorem ggX3_holds_X3_hourOn_ : GoodIn wsX3_holds wsX3_hourOn_ := goodIn_r _ [63, 64, 26, 65, 66, 67, 5, 68, 69, 70, 71, 46, 72, 73, 74, 75, 36, 37, 38, 39, 20, 48, 49, 50, 51, 52, 53, 54, 55, 56, 57, 58, 59, 8, 9, 10, 76, 77, 78, 79, 88, 89, 90, 91, 92, 93, 94, 95] (by decide +kernel) (by decide +kernel)
set_option maxRecDepth 20000 in
theorem gX3_holds_X3_hourOn_ : GoodIn wsX3_holds (wsV RX3 99 RX3 yX3_hourOn_ wsX3_hourOn_) := goodIn_app (goodIn_of _ (by decide +kernel)) ggX3_holds_X3_hourOn_
set_option maxRecDepth 20000 in
theorem ggX3_holds_X3_bringBack : GoodIn wsX3_holds wsX3_bringBack := goodIn_r _ [83, 20, 84, 85, 86, 87, 26, 88, 89, 90, 91, 92, 93, 94, 95] (by decide +kernel) (by decide +kernel)
set_option maxRecDepth 20000 in
theorem gX3_holds_X3_bringBack : GoodIn wsX3_holds (wsV RX3 119 RX3 yX3_bringBack wsX3_bringBack) := goodIn_app (goodIn_of _ (by decide +kernel)) ggX3_holds_X3_bringBack
theorem dX3_holds_0 : decode cX3_holds 0 = .ok (.aload_n 0, 1) := by decide +kernel
theorem dX3_holds_1 : decode cX3_holds 1 = .ok (.iconst 0, 1) := by decide +kernel
theorem dX3_holds_2 : decode cX3_holds 2 = .ok (.putfield 32, 3) := by decide +kernel
theorem dX3_holds_5 : decode cX3_holds 5 = .ok (.aload_n 0, 1) := by decide +kernel
theorem dX3_holds_6 : decode cX3_holds 6 = .ok (.iload_n 1, 1) := by decide +kernel
theorem dX3_holds_7 : decode cX3_holds 7 = .ok (.invokevirtual 81, 3) := by decide +kernel
theorem dX3_holds_10 : decode cX3_holds 10 = .ok (.ifCond .ne 9, 3) := by decide +kernel
theorem dX3_holds_13 : decode cX3_holds 13 = .ok (.aload_n 0, 1) := by decide +kernel
theorem dX3_holds_14 : decode cX3_holds 14 = .ok (.iconst 1, 1) := by decide +kernel
theorem dX3_holds_15 : decode cX3_holds 15 = .ok (.invokevirtual 52, 3) := by decide +kernel
theorem dX3_holds_18 : decode cX3_holds 18 = .ok (.ireturn, 1) := by decide +kernel
theorem dX3_holds_19 : decode cX3_holds 19 = .ok (.aload_n 0, 1) := by decide +kernel
theorem dX3_holds_20 : decode cX3_holds 20 = .ok (.invokevirtual 115, 3) := by decide +kernel
theorem dX3_holds_23 : decode cX3_holds 23 = .ok (.astore_n 2, 1) := by decide +kernel
theorem dX3_holds_24 : decode cX3_holds 24 = .ok (.iconst 0, 1) := by decide +kernel
theorem dX3_holds_25 : decode cX3_holds 25 = .ok (.istore_n 3, 1) := by decide +kernel
theorem dX3_holds_26 : decode cX3_holds 26 = .ok (.iload_n 3, 1) := by decide +kernel
theorem dX3_holds_27 : decode cX3_holds 27 = .ok (.sipush 200, 3) := by decide +kernel
theorem dX3_holds_30 : decode cX3_holds 30 = .ok (.if_icmp .ge 22, 3) := by decide +kernel
theorem dX3_holds_33 : decode cX3_holds 33 = .ok (.aload_n 0, 1) := by decide +kernel
theorem dX3_holds_34 : decode cX3_holds 34 = .ok (.iload_n 1, 1) := by decide +kernel
theorem dX3_holds_35 : decode cX3_holds 35 = .ok (.invokevirtual 87, 3) := by decide +kernel
theorem dX3_holds_38 : decode cX3_holds 38 = .ok (.ifCond .eq 14, 3) := by decide +kernel
theorem dX3_holds_41 : decode cX3_holds 41 = .ok (.aload_n 0, 1) := by decide +kernel
theorem dX3_holds_42 : decode cX3_holds 42 = .ok (.invokevirtual 99, 3) := by decide +kernel
theorem dX3_holds_45 : decode cX3_holds 45 = .ok (.pop, 1) := by decide +kernel
theorem dX3_holds_46 : decode cX3_holds 46 = .ok (.iinc 3 1, 3) := by decide +kernel
theorem dX3_holds_49 : decode cX3_holds 49 = .ok (.goto (-23), 3) := by decide +kernel
theorem dX3_holds_52 : decode cX3_holds 52 = .ok (.aload_n 0, 1) := by decide +kernel
theorem dX3_holds_53 : decode cX3_holds 53 = .ok (.iload_n 1, 1) := by decide +kernel
theorem dX3_holds_54 : decode cX3_holds 54 = .ok (.invokevirtual 87, 3) := by decide +kernel
theorem dX3_holds_57 : decode cX3_holds 57 = .ok (.ifCond .eq 5, 3) := by decide +kernel
theorem dX3_holds_60 : decode cX3_holds 60 = .ok (.iconst (-1), 1) := by decide +kernel
theorem dX3_holds_61 : decode cX3_holds 61 = .ok (.istore_n 3, 1) := by decide +kernel
theorem dX3_holds_62 : decode cX3_holds 62 = .ok (.aload_n 0, 1) := by decide +kernel
theorem dX3_holds_63 : decode cX3_holds 63 = .ok (.aload_n 2, 1) := by decide +kernel
theorem dX3_holds_64 : decode cX3_holds 64 = .ok (.invokevirtual 119, 3) := by decide +kernel
theorem dX3_holds_67 : decode cX3_holds 67 = .ok (.iload_n 3, 1) := by decide +kernel
theorem dX3_holds_68 : decode cX3_holds 68 = .ok (.ireturn, 1) := by decide +kernel
set_option maxRecDepth 20000 in
theorem ggX3_foresee_X3_isIn : GoodIn wsX3_foresee wsX3_isIn := goodIn_r _ [5] (by decide +kernel) (by decide +kernel)
set_option maxRecDepth 20000 in
theorem gX3_foresee_X3_isIn : GoodIn wsX3_foresee (va_wsS RX3 36 yX3_isIn wsX3_isIn) := goodIn_app (goodIn_of _ (by decide +kernel)) ggX3_foresee_X3_isIn
set_option maxRecDepth 20000 in
theorem ggX3_foresee_X3_fail : GoodIn wsX3_foresee wsX3_fail := goodIn_r _ [9, 1, 67, 68, 69, 70, 71, 72, 73, 74] (by decide +kernel) (by decide +kernel)
set_option maxRecDepth 20000 in
theorem gX3_foresee_X3_fail : GoodIn wsX3_foresee (wsV RX3 52 RX3 yX3_fail wsX3_fail) := goodIn_app (goodIn_of _ (by decide +kernel)) ggX3_foresee_X3_fail
set_option maxRecDepth 20000 in
theorem ggX3_foresee_X3_isString : GoodIn wsX3_foresee wsX3_isString := goodIn_r _ [12, 2, 3, 4, 5] (by decide +kernel) (by decide +kernel)
set_option maxRecDepth 20000 in
theorem gX3_foresee_X3_isString : GoodIn wsX3_foresee (va_wsS RX3 40 yX3_isString wsX3_isString) := goodIn_app (goodIn_of _ (by decide +kernel)) ggX3_foresee_X3_isString
set_option maxRecDepth 20000 in
theorem ggX3_foresee_X3_kept : GoodIn wsX3_foresee wsX3_kept := goodIn_r _ [16, 17, 18, 19, 20, 21, 22, 23, 24, 67, 68, 69, 70, 71, 72, 73, 74] (by decide +kernel) (by decide +kernel)
set_option maxRecDepth 20000 in
theorem gX3_foresee_X3_kept : GoodIn wsX3_foresee (wsV RX3 115 RX3 yX3_kept wsX3_kept) := goodIn_app (goodIn_of _ (by decide +kernel)) ggX3_foresee_X3_kept
set_option maxRecDepth 20000 in
theorem ggX3_foresee_X3_hourOn_ : GoodIn wsX3_foresee wsX3_hourOn_ := goodIn_r _ [28, 29, 24, 30, 31, 32, 4, 33, 34, 35, 36, 37, 38, 39, 40, 41, 42, 43, 44, 45, 18, 46, 47, 48, 49, 50, 51, 52, 53, 54, 10, 11, 12, 2, 3, 5, 55, 56, 57, 58, 67, 68, 69, 70, 71, 72, 73, 74] (by decide +kernel) (by decide +kernel)
set_option maxRecDepth 20000 in
theorem gX3_foresee_X3_hourOn_ : GoodIn wsX3_foresee (wsV RX3 99 RX3 yX3_hourOn_ wsX3_hourOn_) := goodIn_app (goodIn_of _ (by decide +kernel)) ggX3_foresee_X3_hourOn_
set_option maxRecDepth 20000 in
theorem ggX3_foresee_X3_tone : GoodIn wsX3_foresee wsX3_tone := goodIn_r _ [49, 24, 42, 43, 44, 4, 45, 18, 50, 51, 52, 53, 54, 10, 11, 12, 2, 3, 5, 67, 68, 69, 70, 71, 72, 73, 74] (by decide +kernel) (by decide +kernel)
set_option maxRecDepth 20000 in
theorem gX3_foresee_X3_tone : GoodIn wsX3_foresee (wsV RX3 55 RX3 yX3_tone wsX3_tone) := goodIn_app (goodIn_of _ (by decide +kernel)) ggX3_foresee_X3_tone
set_option maxRecDepth 20000 in
theorem ggX3_foresee_X3_bringBack : GoodIn wsX3_foresee wsX3_bringBack := goodIn_r _ [62, 18, 63, 64, 65, 66, 24, 67, 68, 69, 70, 71, 72, 73, 74] (by decide +kernel) (by decide +kernel)
set_option maxRecDepth 20000 in
theorem gX3_foresee_X3_bringBack : GoodIn wsX3_foresee (wsV RX3 119 RX3 yX3_bringBack wsX3_bringBack) := goodIn_app (goodIn_of _ (by decide +kernel)) ggX3_foresee_X3_bringBack
theorem dX3_foresee_0 : decode cX3_foresee 0 = .ok (.aload_n 0, 1) := by decide +kernel
theorem dX3_foresee_1 : decode cX3_foresee 1 = .ok (.iconst 0, 1) := by decide +kernel
theorem dX3_foresee_2 : decode cX3_foresee 2 = .ok (.putfield 32, 3) := by decide +kernel
theorem dX3_foresee_5 : decode cX3_foresee 5 = .ok (.iload_n 1, 1) := by decide +kernel
theorem dX3_foresee_6 : decode cX3_foresee 6 = .ok (.iconst 1, 1) := by decide +kernel
theorem dX3_foresee_7 : decode cX3_foresee 7 = .ok (.sipush 200, 3) := by decide +kernel
theorem dX3_foresee_10 : decode cX3_foresee 10 = .ok (.invokestatic 36, 3) := by decide +kernel
theorem dX3_foresee_13 : decode cX3_foresee 13 = .ok (.ifCond .ne 9, 3) := by decide +kernel
theorem dX3_foresee_16 : decode cX3_foresee 16 = .ok (.aload_n 0, 1) := by decide +kernel
theorem dX3_foresee_17 : decode cX3_foresee 17 = .ok (.iconst 1, 1) := by decide +kernel
theorem dX3_foresee_18 : decode cX3_foresee 18 = .ok (.invokevirtual 52, 3) := by decide +kernel
theorem dX3_foresee_21 : decode cX3_foresee 21 = .ok (.ireturn, 1) := by decide +kernel
theorem dX3_foresee_22 : decode cX3_foresee 22 = .ok (.iload_n 2, 1) := by decide +kernel
theorem dX3_foresee_23 : decode cX3_foresee 23 = .ok (.invokestatic 40, 3) := by decide +kernel
theorem dX3_foresee_26 : decode cX3_foresee 26 = .ok (.ifCond .ne 9, 3) := by decide +kernel
theorem dX3_foresee_29 : decode cX3_foresee 29 = .ok (.aload_n 0, 1) := by decide +kernel
theorem dX3_foresee_30 : decode cX3_foresee 30 = .ok (.iconst 2, 1) := by decide +kernel
theorem dX3_foresee_31 : decode cX3_foresee 31 = .ok (.invokevirtual 52, 3) := by decide +kernel
theorem dX3_foresee_34 : decode cX3_foresee 34 = .ok (.ireturn, 1) := by decide +kernel
theorem dX3_foresee_35 : decode cX3_foresee 35 = .ok (.aload_n 0, 1) := by decide +kernel
theorem dX3_foresee_36 : decode cX3_foresee 36 = .ok (.invokevirtual 115, 3) := by decide +kernel
theorem dX3_foresee_39 : decode cX3_foresee 39 = .ok (.astore_n 3, 1) := by decide +kernel
theorem dX3_foresee_40 : decode cX3_foresee 40 = .ok (.iconst 0, 1) := by decide +kernel
theorem dX3_foresee_41 : decode cX3_foresee 41 = .ok (.istore 4, 2) := by decide +kernel
theorem dX3_foresee_43 : decode cX3_foresee 43 = .ok (.iload 4, 2) := by decide +kernel
theorem dX3_foresee_45 : decode cX3_foresee 45 = .ok (.iload_n 1, 1) := by decide +kernel
theorem dX3_foresee_46 : decode cX3_foresee 46 = .ok (.if_icmp .ge 14, 3) := by decide +kernel
theorem dX3_foresee_49 : decode cX3_foresee 49 = .ok (.aload_n 0, 1) := by decide +kernel
theorem dX3_foresee_50 : decode cX3_foresee 50 = .ok (.invokevirtual 99, 3) := by decide +kernel
theorem dX3_foresee_53 : decode cX3_foresee 53 = .ok (.pop, 1) := by decide +kernel
theorem dX3_foresee_54 : decode cX3_foresee 54 = .ok (.iinc 4 1, 3) := by decide +kernel
theorem dX3_foresee_57 : decode cX3_foresee 57 = .ok (.goto (-14), 3) := by decide +kernel
theorem dX3_foresee_60 : decode cX3_foresee 60 = .ok (.aload_n 0, 1) := by decide +kernel
theorem dX3_foresee_61 : decode cX3_foresee 61 = .ok (.iload_n 2, 1) := by decide +kernel
theorem dX3_foresee_62 : decode cX3_foresee 62 = .ok (.invokevirtual 55, 3) := by decide +kernel
theorem dX3_foresee_65 : decode cX3_foresee 65 = .ok (.istore 4, 2) := by decide +kernel
theorem dX3_foresee_67 : decode cX3_foresee 67 = .ok (.aload_n 0, 1) := by decide +kernel
theorem dX3_foresee_68 : decode cX3_foresee 68 = .ok (.aload_n 3, 1) := by decide +kernel
theorem dX3_foresee_69 : decode cX3_foresee 69 = .ok (.invokevirtual 119, 3) := by decide +kernel
theorem dX3_foresee_72 : decode cX3_foresee 72 = .ok (.iload 4, 2) := by decide +kernel
theorem dX3_foresee_74 : decode cX3_foresee 74 = .ok (.ireturn, 1) := by decide +kernel
set_option maxRecDepth 20000 in
theorem ggX3_mean_X3_tone : GoodIn wsX3_mean wsX3_tone := goodIn_r _ [6, 7, 8, 9, 10, 5, 11, 12, 13, 14, 15, 16, 17, 18, 19, 20, 21, 22, 23, 46, 47, 48, 49, 50, 51, 52, 53] (by decide +kernel) (by decide +kernel)
set_option maxRecDepth 20000 in
theorem gX3_mean_X3_tone : GoodIn wsX3_mean (wsV RX3 55 RX3 yX3_tone wsX3_tone) := goodIn_app (goodIn_of _ (by decide +kernel)) ggX3_mean_X3_tone
set_option maxRecDepth 20000 in
theorem ggX3_mean_X3_counted : GoodIn wsX3_mean wsX3_counted := goodIn_r _ [27, 7, 28, 29, 30, 31, 5, 32, 33, 34, 35, 36, 37, 8, 9, 10, 11, 12, 38, 39, 40, 41, 42, 43, 44, 45, 2, 3, 4, 6, 13, 14, 15, 16, 17, 18, 19, 20, 21, 22, 23, 46, 47, 48, 49, 50, 51, 52, 53] (by decide +kernel) (by decide +kernel)
set_option maxRecDepth 20000 in
theorem gX3_mean_X3_counted : GoodIn wsX3_mean (wsV RX3 107 RX3 yX3_counted wsX3_counted) := goodIn_app (goodIn_of _ (by decide +kernel)) ggX3_mean_X3_counted
theorem dX3_mean_0 : decode cX3_mean 0 = .ok (.aload_n 0, 1) := by decide +kernel
theorem dX3_mean_1 : decode cX3_mean 1 = .ok (.iconst 0, 1) := by decide +kernel
theorem dX3_mean_2 : decode cX3_mean 2 = .ok (.putfield 32, 3) := by decide +kernel
theorem dX3_mean_5 : decode cX3_mean 5 = .ok (.iconst 0, 1) := by decide +kernel
theorem dX3_mean_6 : decode cX3_mean 6 = .ok (.istore_n 1, 1) := by decide +kernel
theorem dX3_mean_7 : decode cX3_mean 7 = .ok (.iconst 0, 1) := by decide +kernel
theorem dX3_mean_8 : decode cX3_mean 8 = .ok (.istore_n 2, 1) := by decide +kernel
theorem dX3_mean_9 : decode cX3_mean 9 = .ok (.iload_n 2, 1) := by decide +kernel
theorem dX3_mean_10 : decode cX3_mean 10 = .ok (.bipush 12, 2) := by decide +kernel
theorem dX3_mean_12 : decode cX3_mean 12 = .ok (.if_icmp .ge 17, 3) := by decide +kernel
theorem dX3_mean_15 : decode cX3_mean 15 = .ok (.iload_n 1, 1) := by decide +kernel
theorem dX3_mean_16 : decode cX3_mean 16 = .ok (.aload_n 0, 1) := by decide +kernel
theorem dX3_mean_17 : decode cX3_mean 17 = .ok (.iload_n 2, 1) := by decide +kernel
theorem dX3_mean_18 : decode cX3_mean 18 = .ok (.invokevirtual 55, 3) := by decide +kernel
theorem dX3_mean_21 : decode cX3_mean 21 = .ok (.iadd, 1) := by decide +kernel
theorem dX3_mean_22 : decode cX3_mean 22 = .ok (.istore_n 1, 1) := by decide +kernel
theorem dX3_mean_23 : decode cX3_mean 23 = .ok (.iinc 2 1, 3) := by decide +kernel
theorem dX3_mean_26 : decode cX3_mean 26 = .ok (.goto (-17), 3) := by decide +kernel
theorem dX3_mean_29 : decode cX3_mean 29 = .ok (.aload_n 0, 1) := by decide +kernel
theorem dX3_mean_30 : decode cX3_mean 30 = .ok (.iconst 1, 1) := by decide +kernel
theorem dX3_mean_31 : decode cX3_mean 31 = .ok (.invokevirtual 107, 3) := by decide +kernel
theorem dX3_mean_34 : decode cX3_mean 34 = .ok (.ifCond .ne 7, 3) := by decide +kernel
theorem dX3_mean_37 : decode cX3_mean 37 = .ok (.dconst 0, 1) := by decide +kernel
theorem dX3_mean_38 : decode cX3_mean 38 = .ok (.goto 12, 3) := by decide +kernel
theorem dX3_mean_41 : decode cX3_mean 41 = .ok (.iload_n 1, 1) := by decide +kernel
theorem dX3_mean_42 : decode cX3_mean 42 = .ok (.i2d, 1) := by decide +kernel
theorem dX3_mean_43 : decode cX3_mean 43 = .ok (.aload_n 0, 1) := by decide +kernel
theorem dX3_mean_44 : decode cX3_mean 44 = .ok (.iconst 1, 1) := by decide +kernel
theorem dX3_mean_45 : decode cX3_mean 45 = .ok (.invokevirtual 107, 3) := by decide +kernel
theorem dX3_mean_48 : decode cX3_mean 48 = .ok (.i2d, 1) := by decide +kernel
theorem dX3_mean_49 : decode cX3_mean 49 = .ok (.ddiv, 1) := by decide +kernel
theorem dX3_mean_50 : decode cX3_mean 50 = .ok (.dreturn, 1) := by decide +kernel
set_option maxRecDepth 20000 in
theorem ggX3_digest_X3_counted : GoodIn wsX3_digest wsX3_counted := goodIn_r _ [11, 12, 6, 13, 14, 15, 10, 16, 17, 18, 19, 20, 21, 22, 23, 24, 25, 26, 27, 28, 29, 30, 31, 32, 33, 34, 35, 36, 37, 38, 39, 40, 41, 42, 43, 44, 45, 46, 47, 48, 49, 58, 59, 60, 61, 62, 63, 64, 65] (by decide +kernel) (by decide +kernel)
set_option maxRecDepth 20000 in
theorem gX3_digest_X3_counted : GoodIn wsX3_digest (wsV RX3 107 RX3 yX3_counted wsX3_counted) := goodIn_app (goodIn_of _ (by decide +kernel)) ggX3_digest_X3_counted
set_option maxRecDepth 20000 in
theorem ggX3_digest_X3_stringTold : GoodIn wsX3_digest wsX3_stringTold := goodIn_r _ [53, 22, 23, 24, 10, 25, 26, 35, 36, 37, 38, 12, 39, 40, 41, 42, 43, 44, 45, 46, 47, 48, 49, 58, 59, 60, 61, 62, 63, 64, 65] (by decide +kernel) (by decide +kernel)
set_option maxRecDepth 20000 in
theorem gX3_digest_X3_stringTold : GoodIn wsX3_digest (wsV RX3 58 RX3 yX3_stringTold wsX3_stringTold) := goodIn_app (goodIn_of _ (by decide +kernel)) ggX3_digest_X3_stringTold
set_option maxRecDepth 20000 in
theorem ggX3_digest_X3_to : GoodIn wsX3_digest wsX3_to := goodIn_r _ [20, 21, 58, 59, 60, 61, 62, 63, 64, 65] (by decide +kernel) (by decide +kernel)
set_option maxRecDepth 20000 in
theorem gX3_digest_X3_to : GoodIn wsX3_digest (wsV RX3 70 RX3 yX3_to wsX3_to) := goodIn_app (goodIn_of _ (by decide +kernel)) ggX3_digest_X3_to
set_option maxRecDepth 20000 in
theorem ggX3_digest_X3_offBy : GoodIn wsX3_digest wsX3_offBy := goodIn_r _ [57, 17, 18, 19, 10, 20, 21, 27, 28, 29, 30, 31, 32, 33, 34, 35, 36, 37, 38, 12, 22, 23, 24, 25, 26, 39, 40, 41, 42, 43, 44, 45, 46, 47, 48, 49, 58, 59, 60, 61, 62, 63, 64, 65] (by decide +kernel) (by decide +kernel)
set_option maxRecDepth 20000 in
theorem gX3_digest_X3_offBy : GoodIn wsX3_digest (wsV RX3 84 RX3 yX3_offBy wsX3_offBy) := goodIn_app (goodIn_of _ (by decide +kernel)) ggX3_digest_X3_offBy
theorem dX3_digest_0 : decode cX3_digest 0 = .ok (.aload_n 0, 1) := by decide +kernel
theorem dX3_digest_1 : decode cX3_digest 1 = .ok (.iconst 0, 1) := by decide +kernel
theorem dX3_digest_2 : decode cX3_digest 2 = .ok (.putfield 32, 3) := by decide +kernel
theorem dX3_digest_5 : decode cX3_digest 5 = .ok (.ldc2_w 126, 3) := by decide +kernel
theorem dX3_digest_8 : decode cX3_digest 8 = .ok (.lstore_n 1, 1) := by decide +kernel
theorem dX3_digest_9 : decode cX3_digest 9 = .ok (.iconst 0, 1) := by decide +kernel
theorem dX3_digest_10 : decode cX3_digest 10 = .ok (.istore_n 3, 1) := by decide +kernel
theorem dX3_digest_11 : decode cX3_digest 11 = .ok (.iload_n 3, 1) := by decide +kernel
theorem dX3_digest_12 : decode cX3_digest 12 = .ok (.bipush 8, 2) := by decide +kernel
theorem dX3_digest_14 : decode cX3_digest 14 = .ok (.if_icmp .ge 22, 3) := by decide +kernel
theorem dX3_digest_17 : decode cX3_digest 17 = .ok (.lload_n 1, 1) := by decide +kernel
theorem dX3_digest_18 : decode cX3_digest 18 = .ok (.ldc2_w 128, 3) := by decide +kernel
theorem dX3_digest_21 : decode cX3_digest 21 = .ok (.lmul, 1) := by decide +kernel
theorem dX3_digest_22 : decode cX3_digest 22 = .ok (.aload_n 0, 1) := by decide +kernel
theorem dX3_digest_23 : decode cX3_digest 23 = .ok (.iload_n 3, 1) := by decide +kernel
theorem dX3_digest_24 : decode cX3_digest 24 = .ok (.invokevirtual 107, 3) := by decide +kernel
theorem dX3_digest_27 : decode cX3_digest 27 = .ok (.i2l, 1) := by decide +kernel
theorem dX3_digest_28 : decode cX3_digest 28 = .ok (.ladd, 1) := by decide +kernel
theorem dX3_digest_29 : decode cX3_digest 29 = .ok (.lstore_n 1, 1) := by decide +kernel
theorem dX3_digest_30 : decode cX3_digest 30 = .ok (.iinc 3 1, 3) := by decide +kernel
theorem dX3_digest_33 : decode cX3_digest 33 = .ok (.goto (-22), 3) := by decide +kernel
theorem dX3_digest_36 : decode cX3_digest 36 = .ok (.iconst 0, 1) := by decide +kernel
theorem dX3_digest_37 : decode cX3_digest 37 = .ok (.istore_n 3, 1) := by decide +kernel
theorem dX3_digest_38 : decode cX3_digest 38 = .ok (.iload_n 3, 1) := by decide +kernel
theorem dX3_digest_39 : decode cX3_digest 39 = .ok (.bipush 12, 2) := by decide +kernel
theorem dX3_digest_41 : decode cX3_digest 41 = .ok (.if_icmp .ge 40, 3) := by decide +kernel
theorem dX3_digest_44 : decode cX3_digest 44 = .ok (.iconst 0, 1) := by decide +kernel
theorem dX3_digest_45 : decode cX3_digest 45 = .ok (.istore 4, 2) := by decide +kernel
theorem dX3_digest_47 : decode cX3_digest 47 = .ok (.iload 4, 2) := by decide +kernel
theorem dX3_digest_49 : decode cX3_digest 49 = .ok (.bipush 7, 2) := by decide +kernel
theorem dX3_digest_51 : decode cX3_digest 51 = .ok (.if_icmp .ge 24, 3) := by decide +kernel
theorem dX3_digest_54 : decode cX3_digest 54 = .ok (.lload_n 1, 1) := by decide +kernel
theorem dX3_digest_55 : decode cX3_digest 55 = .ok (.ldc2_w 128, 3) := by decide +kernel
theorem dX3_digest_58 : decode cX3_digest 58 = .ok (.lmul, 1) := by decide +kernel
theorem dX3_digest_59 : decode cX3_digest 59 = .ok (.aload_n 0, 1) := by decide +kernel
theorem dX3_digest_60 : decode cX3_digest 60 = .ok (.iload_n 3, 1) := by decide +kernel
theorem dX3_digest_61 : decode cX3_digest 61 = .ok (.iload 4, 2) := by decide +kernel
theorem dX3_digest_63 : decode cX3_digest 63 = .ok (.invokevirtual 58, 3) := by decide +kernel
theorem dX3_digest_66 : decode cX3_digest 66 = .ok (.i2l, 1) := by decide +kernel
theorem dX3_digest_67 : decode cX3_digest 67 = .ok (.ladd, 1) := by decide +kernel
theorem dX3_digest_68 : decode cX3_digest 68 = .ok (.lstore_n 1, 1) := by decide +kernel
theorem dX3_digest_69 : decode cX3_digest 69 = .ok (.iinc 4 1, 3) := by decide +kernel
theorem dX3_digest_72 : decode cX3_digest 72 = .ok (.goto (-25), 3) := by decide +kernel
theorem dX3_digest_75 : decode cX3_digest 75 = .ok (.iinc 3 1, 3) := by decide +kernel
theorem dX3_digest_78 : decode cX3_digest 78 = .ok (.goto (-40), 3) := by decide +kernel
theorem dX3_digest_81 : decode cX3_digest 81 = .ok (.iconst 0, 1) := by decide +kernel
theorem dX3_digest_82 : decode cX3_digest 82 = .ok (.istore_n 3, 1) := by decide +kernel
theorem dX3_digest_83 : decode cX3_digest 83 = .ok (.iload_n 3, 1) := by decide +kernel
theorem dX3_digest_84 : decode cX3_digest 84 = .ok (.bipush 12, 2) := by decide +kernel
theorem dX3_digest_86 : decode cX3_digest 86 = .ok (.if_icmp .ge 33, 3) := by decide +kernel
theorem dX3_digest_89 : decode cX3_digest 89 = .ok (.lload_n 1, 1) := by decide +kernel
theorem dX3_digest_90 : decode cX3_digest 90 = .ok (.ldc2_w 128, 3) := by decide +kernel
theorem dX3_digest_93 : decode cX3_digest 93 = .ok (.lmul, 1) := by decide +kernel
theorem dX3_digest_94 : decode cX3_digest 94 = .ok (.bipush 10, 2) := by decide +kernel
theorem dX3_digest_96 : decode cX3_digest 96 = .ok (.aload_n 0, 1) := by decide +kernel
theorem dX3_digest_97 : decode cX3_digest 97 = .ok (.getfield 16, 3) := by decide +kernel
theorem dX3_digest_100 : decode cX3_digest 100 = .ok (.iload_n 3, 1) := by decide +kernel
theorem dX3_digest_101 : decode cX3_digest 101 = .ok (.iaload, 1) := by decide +kernel
theorem dX3_digest_102 : decode cX3_digest 102 = .ok (.imul, 1) := by decide +kernel
theorem dX3_digest_103 : decode cX3_digest 103 = .ok (.aload_n 0, 1) := by decide +kernel
theorem dX3_digest_104 : decode cX3_digest 104 = .ok (.getfield 19, 3) := by decide +kernel
theorem dX3_digest_107 : decode cX3_digest 107 = .ok (.iload_n 3, 1) := by decide +kernel
theorem dX3_digest_108 : decode cX3_digest 108 = .ok (.iaload, 1) := by decide +kernel
theorem dX3_digest_109 : decode cX3_digest 109 = .ok (.iadd, 1) := by decide +kernel
theorem dX3_digest_110 : decode cX3_digest 110 = .ok (.i2l, 1) := by decide +kernel
theorem dX3_digest_111 : decode cX3_digest 111 = .ok (.ladd, 1) := by decide +kernel
theorem dX3_digest_112 : decode cX3_digest 112 = .ok (.lstore_n 1, 1) := by decide +kernel
theorem dX3_digest_113 : decode cX3_digest 113 = .ok (.iinc 3 1, 3) := by decide +kernel
theorem dX3_digest_116 : decode cX3_digest 116 = .ok (.goto (-33), 3) := by decide +kernel
theorem dX3_digest_119 : decode cX3_digest 119 = .ok (.iconst 0, 1) := by decide +kernel
theorem dX3_digest_120 : decode cX3_digest 120 = .ok (.istore_n 3, 1) := by decide +kernel
theorem dX3_digest_121 : decode cX3_digest 121 = .ok (.iload_n 3, 1) := by decide +kernel
theorem dX3_digest_122 : decode cX3_digest 122 = .ok (.aload_n 0, 1) := by decide +kernel
theorem dX3_digest_123 : decode cX3_digest 123 = .ok (.getfield 61, 3) := by decide +kernel
theorem dX3_digest_126 : decode cX3_digest 126 = .ok (.if_icmp .ge 59, 3) := by decide +kernel
theorem dX3_digest_129 : decode cX3_digest 129 = .ok (.iconst 0, 1) := by decide +kernel
theorem dX3_digest_130 : decode cX3_digest 130 = .ok (.istore 4, 2) := by decide +kernel
theorem dX3_digest_132 : decode cX3_digest 132 = .ok (.iload 4, 2) := by decide +kernel
theorem dX3_digest_134 : decode cX3_digest 134 = .ok (.iconst 2, 1) := by decide +kernel
theorem dX3_digest_135 : decode cX3_digest 135 = .ok (.aload_n 0, 1) := by decide +kernel
theorem dX3_digest_136 : decode cX3_digest 136 = .ok (.iload_n 3, 1) := by decide +kernel
theorem dX3_digest_137 : decode cX3_digest 137 = .ok (.iconst 1, 1) := by decide +kernel
theorem dX3_digest_138 : decode cX3_digest 138 = .ok (.invokevirtual 70, 3) := by decide +kernel
theorem dX3_digest_141 : decode cX3_digest 141 = .ok (.iadd, 1) := by decide +kernel
theorem dX3_digest_142 : decode cX3_digest 142 = .ok (.if_icmp .ge 24, 3) := by decide +kernel
theorem dX3_digest_145 : decode cX3_digest 145 = .ok (.lload_n 1, 1) := by decide +kernel
theorem dX3_digest_146 : decode cX3_digest 146 = .ok (.ldc2_w 128, 3) := by decide +kernel
theorem dX3_digest_149 : decode cX3_digest 149 = .ok (.lmul, 1) := by decide +kernel
theorem dX3_digest_150 : decode cX3_digest 150 = .ok (.aload_n 0, 1) := by decide +kernel
theorem dX3_digest_151 : decode cX3_digest 151 = .ok (.iload_n 3, 1) := by decide +kernel
theorem dX3_digest_152 : decode cX3_digest 152 = .ok (.iload 4, 2) := by decide +kernel
theorem dX3_digest_154 : decode cX3_digest 154 = .ok (.invokevirtual 70, 3) := by decide +kernel
theorem dX3_digest_157 : decode cX3_digest 157 = .ok (.i2l, 1) := by decide +kernel
theorem dX3_digest_158 : decode cX3_digest 158 = .ok (.ladd, 1) := by decide +kernel
theorem dX3_digest_159 : decode cX3_digest 159 = .ok (.lstore_n 1, 1) := by decide +kernel
theorem dX3_digest_160 : decode cX3_digest 160 = .ok (.iinc 4 1, 3) := by decide +kernel
theorem dX3_digest_163 : decode cX3_digest 163 = .ok (.goto (-31), 3) := by decide +kernel
theorem dX3_digest_166 : decode cX3_digest 166 = .ok (.lload_n 1, 1) := by decide +kernel
theorem dX3_digest_167 : decode cX3_digest 167 = .ok (.ldc2_w 128, 3) := by decide +kernel
theorem dX3_digest_170 : decode cX3_digest 170 = .ok (.lmul, 1) := by decide +kernel
theorem dX3_digest_171 : decode cX3_digest 171 = .ok (.aload_n 0, 1) := by decide +kernel
theorem dX3_digest_172 : decode cX3_digest 172 = .ok (.iload_n 3, 1) := by decide +kernel
theorem dX3_digest_173 : decode cX3_digest 173 = .ok (.invokevirtual 84, 3) := by decide +kernel
theorem dX3_digest_176 : decode cX3_digest 176 = .ok (.i2l, 1) := by decide +kernel
theorem dX3_digest_177 : decode cX3_digest 177 = .ok (.ladd, 1) := by decide +kernel
theorem dX3_digest_178 : decode cX3_digest 178 = .ok (.lstore_n 1, 1) := by decide +kernel
theorem dX3_digest_179 : decode cX3_digest 179 = .ok (.iinc 3 1, 3) := by decide +kernel
theorem dX3_digest_182 : decode cX3_digest 182 = .ok (.goto (-61), 3) := by decide +kernel
theorem dX3_digest_185 : decode cX3_digest 185 = .ok (.lload_n 1, 1) := by decide +kernel
theorem dX3_digest_186 : decode cX3_digest 186 = .ok (.lreturn, 1) := by decide +kernel
theorem dJ6_numberOfTrailingZeros_0f7a4_0 : decode cJ6_numberOfTrailingZeros_0f7a4 0 = .ok (.iload_n 0, 1) := by decide +kernel
theorem dJ6_numberOfTrailingZeros_0f7a4_1 : decode cJ6_numberOfTrailingZeros_0f7a4 1 = .ok (.iconst (-1), 1) := by decide +kernel
theorem dJ6_numberOfTrailingZeros_0f7a4_2 : decode cJ6_numberOfTrailingZeros_0f7a4 2 = .ok (.ixor, 1) := by decide +kernel
theorem dJ6_numberOfTrailingZeros_0f7a4_3 : decode cJ6_numberOfTrailingZeros_0f7a4 3 = .ok (.iload_n 0, 1) := by decide +kernel
theorem dJ6_numberOfTrailingZeros_0f7a4_4 : decode cJ6_numberOfTrailingZeros_0f7a4 4 = .ok (.iconst 1, 1) := by decide +kernel
theorem dJ6_numberOfTrailingZeros_0f7a4_5 : decode cJ6_numberOfTrailingZeros_0f7a4 5 = .ok (.isub, 1) := by decide +kernel
theorem dJ6_numberOfTrailingZeros_0f7a4_6 : decode cJ6_numberOfTrailingZeros_0f7a4 6 = .ok (.iand, 1) := by decide +kernel
theorem dJ6_numberOfTrailingZeros_0f7a4_7 : decode cJ6_numberOfTrailingZeros_0f7a4 7 = .ok (.istore_n 0, 1) := by decide +kernel
theorem dJ6_numberOfTrailingZeros_0f7a4_8 : decode cJ6_numberOfTrailingZeros_0f7a4 8 = .ok (.iload_n 0, 1) := by decide +kernel
theorem dJ6_numberOfTrailingZeros_0f7a4_9 : decode cJ6_numberOfTrailingZeros_0f7a4 9 = .ok (.ifCond .gt 8, 3) := by decide +kernel
theorem dJ6_numberOfTrailingZeros_0f7a4_12 : decode cJ6_numberOfTrailingZeros_0f7a4 12 = .ok (.iload_n 0, 1) := by decide +kernel
theorem dJ6_numberOfTrailingZeros_0f7a4_13 : decode cJ6_numberOfTrailingZeros_0f7a4 13 = .ok (.bipush 32, 2) := by decide +kernel
theorem dJ6_numberOfTrailingZeros_0f7a4_15 : decode cJ6_numberOfTrailingZeros_0f7a4 15 = .ok (.iand, 1) := by decide +kernel
theorem dJ6_numberOfTrailingZeros_0f7a4_16 : decode cJ6_numberOfTrailingZeros_0f7a4 16 = .ok (.ireturn, 1) := by decide +kernel
theorem dJ6_numberOfTrailingZeros_0f7a4_17 : decode cJ6_numberOfTrailingZeros_0f7a4 17 = .ok (.iconst 1, 1) := by decide +kernel
theorem dJ6_numberOfTrailingZeros_0f7a4_18 : decode cJ6_numberOfTrailingZeros_0f7a4 18 = .ok (.istore_n 1, 1) := by decide +kernel
theorem dJ6_numberOfTrailingZeros_0f7a4_19 : decode cJ6_numberOfTrailingZeros_0f7a4 19 = .ok (.iload_n 0, 1) := by decide +kernel
theorem dJ6_numberOfTrailingZeros_0f7a4_20 : decode cJ6_numberOfTrailingZeros_0f7a4 20 = .ok (.ldc_w 264, 3) := by decide +kernel
theorem dJ6_numberOfTrailingZeros_0f7a4_23 : decode cJ6_numberOfTrailingZeros_0f7a4 23 = .ok (.if_icmp .le 11, 3) := by decide +kernel
theorem dJ6_numberOfTrailingZeros_0f7a4_26 : decode cJ6_numberOfTrailingZeros_0f7a4 26 = .ok (.iinc 1 16, 3) := by decide +kernel
theorem dJ6_numberOfTrailingZeros_0f7a4_29 : decode cJ6_numberOfTrailingZeros_0f7a4 29 = .ok (.iload_n 0, 1) := by decide +kernel
theorem dJ6_numberOfTrailingZeros_0f7a4_30 : decode cJ6_numberOfTrailingZeros_0f7a4 30 = .ok (.bipush 16, 2) := by decide +kernel
theorem dJ6_numberOfTrailingZeros_0f7a4_32 : decode cJ6_numberOfTrailingZeros_0f7a4 32 = .ok (.iushr, 1) := by decide +kernel
theorem dJ6_numberOfTrailingZeros_0f7a4_33 : decode cJ6_numberOfTrailingZeros_0f7a4 33 = .ok (.istore_n 0, 1) := by decide +kernel
theorem dJ6_numberOfTrailingZeros_0f7a4_34 : decode cJ6_numberOfTrailingZeros_0f7a4 34 = .ok (.iload_n 0, 1) := by decide +kernel
theorem dJ6_numberOfTrailingZeros_0f7a4_35 : decode cJ6_numberOfTrailingZeros_0f7a4 35 = .ok (.sipush 256, 3) := by decide +kernel
theorem dJ6_numberOfTrailingZeros_0f7a4_38 : decode cJ6_numberOfTrailingZeros_0f7a4 38 = .ok (.if_icmp .le 11, 3) := by decide +kernel
theorem dJ6_numberOfTrailingZeros_0f7a4_41 : decode cJ6_numberOfTrailingZeros_0f7a4 41 = .ok (.iinc 1 8, 3) := by decide +kernel
theorem dJ6_numberOfTrailingZeros_0f7a4_44 : decode cJ6_numberOfTrailingZeros_0f7a4 44 = .ok (.iload_n 0, 1) := by decide +kernel
theorem dJ6_numberOfTrailingZeros_0f7a4_45 : decode cJ6_numberOfTrailingZeros_0f7a4 45 = .ok (.bipush 8, 2) := by decide +kernel
theorem dJ6_numberOfTrailingZeros_0f7a4_47 : decode cJ6_numberOfTrailingZeros_0f7a4 47 = .ok (.iushr, 1) := by decide +kernel
theorem dJ6_numberOfTrailingZeros_0f7a4_48 : decode cJ6_numberOfTrailingZeros_0f7a4 48 = .ok (.istore_n 0, 1) := by decide +kernel
theorem dJ6_numberOfTrailingZeros_0f7a4_49 : decode cJ6_numberOfTrailingZeros_0f7a4 49 = .ok (.iload_n 0, 1) := by decide +kernel
theorem dJ6_numberOfTrailingZeros_0f7a4_50 : decode cJ6_numberOfTrailingZeros_0f7a4 50 = .ok (.bipush 16, 2) := by decide +kernel
theorem dJ6_numberOfTrailingZeros_0f7a4_52 : decode cJ6_numberOfTrailingZeros_0f7a4 52 = .ok (.if_icmp .le 10, 3) := by decide +kernel
theorem dJ6_numberOfTrailingZeros_0f7a4_55 : decode cJ6_numberOfTrailingZeros_0f7a4 55 = .ok (.iinc 1 4, 3) := by decide +kernel
theorem dJ6_numberOfTrailingZeros_0f7a4_58 : decode cJ6_numberOfTrailingZeros_0f7a4 58 = .ok (.iload_n 0, 1) := by decide +kernel
theorem dJ6_numberOfTrailingZeros_0f7a4_59 : decode cJ6_numberOfTrailingZeros_0f7a4 59 = .ok (.iconst 4, 1) := by decide +kernel
theorem dJ6_numberOfTrailingZeros_0f7a4_60 : decode cJ6_numberOfTrailingZeros_0f7a4 60 = .ok (.iushr, 1) := by decide +kernel
theorem dJ6_numberOfTrailingZeros_0f7a4_61 : decode cJ6_numberOfTrailingZeros_0f7a4 61 = .ok (.istore_n 0, 1) := by decide +kernel
theorem dJ6_numberOfTrailingZeros_0f7a4_62 : decode cJ6_numberOfTrailingZeros_0f7a4 62 = .ok (.iload_n 0, 1) := by decide +kernel
theorem dJ6_numberOfTrailingZeros_0f7a4_63 : decode cJ6_numberOfTrailingZeros_0f7a4 63 = .ok (.iconst 4, 1) := by decide +kernel
theorem dJ6_numberOfTrailingZeros_0f7a4_64 : decode cJ6_numberOfTrailingZeros_0f7a4 64 = .ok (.if_icmp .le 10, 3) := by decide +kernel
theorem dJ6_numberOfTrailingZeros_0f7a4_67 : decode cJ6_numberOfTrailingZeros_0f7a4 67 = .ok (.iinc 1 2, 3) := by decide +kernel
theorem dJ6_numberOfTrailingZeros_0f7a4_70 : decode cJ6_numberOfTrailingZeros_0f7a4 70 = .ok (.iload_n 0, 1) := by decide +kernel
theorem dJ6_numberOfTrailingZeros_0f7a4_71 : decode cJ6_numberOfTrailingZeros_0f7a4 71 = .ok (.iconst 2, 1) := by decide +kernel
theorem dJ6_numberOfTrailingZeros_0f7a4_72 : decode cJ6_numberOfTrailingZeros_0f7a4 72 = .ok (.iushr, 1) := by decide +kernel
theorem dJ6_numberOfTrailingZeros_0f7a4_73 : decode cJ6_numberOfTrailingZeros_0f7a4 73 = .ok (.istore_n 0, 1) := by decide +kernel
theorem dJ6_numberOfTrailingZeros_0f7a4_74 : decode cJ6_numberOfTrailingZeros_0f7a4 74 = .ok (.iload_n 1, 1) := by decide +kernel
theorem dJ6_numberOfTrailingZeros_0f7a4_75 : decode cJ6_numberOfTrailingZeros_0f7a4 75 = .ok (.iload_n 0, 1) := by decide +kernel
theorem dJ6_numberOfTrailingZeros_0f7a4_76 : decode cJ6_numberOfTrailingZeros_0f7a4 76 = .ok (.iconst 1, 1) := by decide +kernel
theorem dJ6_numberOfTrailingZeros_0f7a4_77 : decode cJ6_numberOfTrailingZeros_0f7a4 77 = .ok (.iushr, 1) := by decide +kernel
theorem dJ6_numberOfTrailingZeros_0f7a4_78 : decode cJ6_numberOfTrailingZeros_0f7a4 78 = .ok (.iadd, 1) := by decide +kernel
theorem dJ6_numberOfTrailingZeros_0f7a4_79 : decode cJ6_numberOfTrailingZeros_0f7a4 79 = .ok (.ireturn, 1) := by decide +kernel
theorem dJ6_bitCount_0f7a4_0 : decode cJ6_bitCount_0f7a4 0 = .ok (.iload_n 0, 1) := by decide +kernel
theorem dJ6_bitCount_0f7a4_1 : decode cJ6_bitCount_0f7a4 1 = .ok (.iload_n 0, 1) := by decide +kernel
theorem dJ6_bitCount_0f7a4_2 : decode cJ6_bitCount_0f7a4 2 = .ok (.iconst 1, 1) := by decide +kernel
theorem dJ6_bitCount_0f7a4_3 : decode cJ6_bitCount_0f7a4 3 = .ok (.iushr, 1) := by decide +kernel
theorem dJ6_bitCount_0f7a4_4 : decode cJ6_bitCount_0f7a4 4 = .ok (.ldc_w 265, 3) := by decide +kernel
theorem dJ6_bitCount_0f7a4_7 : decode cJ6_bitCount_0f7a4 7 = .ok (.iand, 1) := by decide +kernel
theorem dJ6_bitCount_0f7a4_8 : decode cJ6_bitCount_0f7a4 8 = .ok (.isub, 1) := by decide +kernel
theorem dJ6_bitCount_0f7a4_9 : decode cJ6_bitCount_0f7a4 9 = .ok (.istore_n 0, 1) := by decide +kernel
theorem dJ6_bitCount_0f7a4_10 : decode cJ6_bitCount_0f7a4 10 = .ok (.iload_n 0, 1) := by decide +kernel
theorem dJ6_bitCount_0f7a4_11 : decode cJ6_bitCount_0f7a4 11 = .ok (.ldc_w 266, 3) := by decide +kernel
theorem dJ6_bitCount_0f7a4_14 : decode cJ6_bitCount_0f7a4 14 = .ok (.iand, 1) := by decide +kernel
theorem dJ6_bitCount_0f7a4_15 : decode cJ6_bitCount_0f7a4 15 = .ok (.iload_n 0, 1) := by decide +kernel
theorem dJ6_bitCount_0f7a4_16 : decode cJ6_bitCount_0f7a4 16 = .ok (.iconst 2, 1) := by decide +kernel
theorem dJ6_bitCount_0f7a4_17 : decode cJ6_bitCount_0f7a4 17 = .ok (.iushr, 1) := by decide +kernel
theorem dJ6_bitCount_0f7a4_18 : decode cJ6_bitCount_0f7a4 18 = .ok (.ldc_w 266, 3) := by decide +kernel
theorem dJ6_bitCount_0f7a4_21 : decode cJ6_bitCount_0f7a4 21 = .ok (.iand, 1) := by decide +kernel
theorem dJ6_bitCount_0f7a4_22 : decode cJ6_bitCount_0f7a4 22 = .ok (.iadd, 1) := by decide +kernel
theorem dJ6_bitCount_0f7a4_23 : decode cJ6_bitCount_0f7a4 23 = .ok (.istore_n 0, 1) := by decide +kernel
theorem dJ6_bitCount_0f7a4_24 : decode cJ6_bitCount_0f7a4 24 = .ok (.iload_n 0, 1) := by decide +kernel
theorem dJ6_bitCount_0f7a4_25 : decode cJ6_bitCount_0f7a4 25 = .ok (.iload_n 0, 1) := by decide +kernel
theorem dJ6_bitCount_0f7a4_26 : decode cJ6_bitCount_0f7a4 26 = .ok (.iconst 4, 1) := by decide +kernel
theorem dJ6_bitCount_0f7a4_27 : decode cJ6_bitCount_0f7a4 27 = .ok (.iushr, 1) := by decide +kernel
theorem dJ6_bitCount_0f7a4_28 : decode cJ6_bitCount_0f7a4 28 = .ok (.iadd, 1) := by decide +kernel
theorem dJ6_bitCount_0f7a4_29 : decode cJ6_bitCount_0f7a4 29 = .ok (.ldc_w 267, 3) := by decide +kernel
theorem dJ6_bitCount_0f7a4_32 : decode cJ6_bitCount_0f7a4 32 = .ok (.iand, 1) := by decide +kernel
theorem dJ6_bitCount_0f7a4_33 : decode cJ6_bitCount_0f7a4 33 = .ok (.istore_n 0, 1) := by decide +kernel
theorem dJ6_bitCount_0f7a4_34 : decode cJ6_bitCount_0f7a4 34 = .ok (.iload_n 0, 1) := by decide +kernel
theorem dJ6_bitCount_0f7a4_35 : decode cJ6_bitCount_0f7a4 35 = .ok (.iload_n 0, 1) := by decide +kernel
theorem dJ6_bitCount_0f7a4_36 : decode cJ6_bitCount_0f7a4 36 = .ok (.bipush 8, 2) := by decide +kernel
theorem dJ6_bitCount_0f7a4_38 : decode cJ6_bitCount_0f7a4 38 = .ok (.iushr, 1) := by decide +kernel
theorem dJ6_bitCount_0f7a4_39 : decode cJ6_bitCount_0f7a4 39 = .ok (.iadd, 1) := by decide +kernel
theorem dJ6_bitCount_0f7a4_40 : decode cJ6_bitCount_0f7a4 40 = .ok (.istore_n 0, 1) := by decide +kernel
theorem dJ6_bitCount_0f7a4_41 : decode cJ6_bitCount_0f7a4 41 = .ok (.iload_n 0, 1) := by decide +kernel
theorem dJ6_bitCount_0f7a4_42 : decode cJ6_bitCount_0f7a4 42 = .ok (.iload_n 0, 1) := by decide +kernel
theorem dJ6_bitCount_0f7a4_43 : decode cJ6_bitCount_0f7a4 43 = .ok (.bipush 16, 2) := by decide +kernel
theorem dJ6_bitCount_0f7a4_45 : decode cJ6_bitCount_0f7a4 45 = .ok (.iushr, 1) := by decide +kernel
theorem dJ6_bitCount_0f7a4_46 : decode cJ6_bitCount_0f7a4 46 = .ok (.iadd, 1) := by decide +kernel
theorem dJ6_bitCount_0f7a4_47 : decode cJ6_bitCount_0f7a4 47 = .ok (.istore_n 0, 1) := by decide +kernel
theorem dJ6_bitCount_0f7a4_48 : decode cJ6_bitCount_0f7a4 48 = .ok (.iload_n 0, 1) := by decide +kernel
theorem dJ6_bitCount_0f7a4_49 : decode cJ6_bitCount_0f7a4 49 = .ok (.bipush 63, 2) := by decide +kernel
theorem dJ6_bitCount_0f7a4_51 : decode cJ6_bitCount_0f7a4 51 = .ok (.iand, 1) := by decide +kernel
theorem dJ6_bitCount_0f7a4_52 : decode cJ6_bitCount_0f7a4 52 = .ok (.ireturn, 1) := by decide +kernel
theorem dJ9_floorMod_7cf53_0 : decode cJ9_floorMod_7cf53 0 = .ok (.iload_n 0, 1) := by decide +kernel
theorem dJ9_floorMod_7cf53_1 : decode cJ9_floorMod_7cf53 1 = .ok (.iload_n 1, 1) := by decide +kernel
theorem dJ9_floorMod_7cf53_2 : decode cJ9_floorMod_7cf53 2 = .ok (.irem, 1) := by decide +kernel
theorem dJ9_floorMod_7cf53_3 : decode cJ9_floorMod_7cf53 3 = .ok (.istore_n 2, 1) := by decide +kernel
theorem dJ9_floorMod_7cf53_4 : decode cJ9_floorMod_7cf53 4 = .ok (.iload_n 0, 1) := by decide +kernel
theorem dJ9_floorMod_7cf53_5 : decode cJ9_floorMod_7cf53 5 = .ok (.iload_n 1, 1) := by decide +kernel
theorem dJ9_floorMod_7cf53_6 : decode cJ9_floorMod_7cf53 6 = .ok (.ixor, 1) := by decide +kernel
theorem dJ9_floorMod_7cf53_7 : decode cJ9_floorMod_7cf53 7 = .ok (.ifCond .ge 11, 3) := by decide +kernel
theorem dJ9_floorMod_7cf53_10 : decode cJ9_floorMod_7cf53 10 = .ok (.iload_n 2, 1) := by decide +kernel
theorem dJ9_floorMod_7cf53_11 : decode cJ9_floorMod_7cf53 11 = .ok (.ifCond .eq 7, 3) := by decide +kernel
theorem dJ9_floorMod_7cf53_14 : decode cJ9_floorMod_7cf53 14 = .ok (.iload_n 2, 1) := by decide +kernel
theorem dJ9_floorMod_7cf53_15 : decode cJ9_floorMod_7cf53 15 = .ok (.iload_n 1, 1) := by decide +kernel
theorem dJ9_floorMod_7cf53_16 : decode cJ9_floorMod_7cf53 16 = .ok (.iadd, 1) := by decide +kernel
theorem dJ9_floorMod_7cf53_17 : decode cJ9_floorMod_7cf53 17 = .ok (.ireturn, 1) := by decide +kernel
theorem dJ9_floorMod_7cf53_18 : decode cJ9_floorMod_7cf53 18 = .ok (.iload_n 2, 1) := by decide +kernel
theorem dJ9_floorMod_7cf53_19 : decode cJ9_floorMod_7cf53 19 = .ok (.ireturn, 1) := by decide +kernel
theorem dJ9_abs_0f7a4_0 : decode cJ9_abs_0f7a4 0 = .ok (.iload_n 0, 1) := by decide +kernel
theorem dJ9_abs_0f7a4_1 : decode cJ9_abs_0f7a4 1 = .ok (.ifCond .ge 8, 3) := by decide +kernel
theorem dJ9_abs_0f7a4_4 : decode cJ9_abs_0f7a4 4 = .ok (.iload_n 0, 1) := by decide +kernel
theorem dJ9_abs_0f7a4_5 : decode cJ9_abs_0f7a4 5 = .ok (.ineg, 1) := by decide +kernel
theorem dJ9_abs_0f7a4_6 : decode cJ9_abs_0f7a4 6 = .ok (.goto 4, 3) := by decide +kernel
theorem dJ9_abs_0f7a4_9 : decode cJ9_abs_0f7a4 9 = .ok (.iload_n 0, 1) := by decide +kernel
theorem dJ9_abs_0f7a4_10 : decode cJ9_abs_0f7a4 10 = .ok (.ireturn, 1) := by decide +kernel
theorem dJ9_max_7cf53_0 : decode cJ9_max_7cf53 0 = .ok (.iload_n 0, 1) := by decide +kernel
theorem dJ9_max_7cf53_1 : decode cJ9_max_7cf53 1 = .ok (.iload_n 1, 1) := by decide +kernel
theorem dJ9_max_7cf53_2 : decode cJ9_max_7cf53 2 = .ok (.if_icmp .lt 7, 3) := by decide +kernel
theorem dJ9_max_7cf53_5 : decode cJ9_max_7cf53 5 = .ok (.iload_n 0, 1) := by decide +kernel
theorem dJ9_max_7cf53_6 : decode cJ9_max_7cf53 6 = .ok (.goto 4, 3) := by decide +kernel
theorem dJ9_max_7cf53_9 : decode cJ9_max_7cf53 9 = .ok (.iload_n 1, 1) := by decide +kernel
theorem dJ9_max_7cf53_10 : decode cJ9_max_7cf53 10 = .ok (.ireturn, 1) := by decide +kernel
theorem dJ9_min_7cf53_0 : decode cJ9_min_7cf53 0 = .ok (.iload_n 0, 1) := by decide +kernel
theorem dJ9_min_7cf53_1 : decode cJ9_min_7cf53 1 = .ok (.iload_n 1, 1) := by decide +kernel
theorem dJ9_min_7cf53_2 : decode cJ9_min_7cf53 2 = .ok (.if_icmp .gt 7, 3) := by decide +kernel
theorem dJ9_min_7cf53_5 : decode cJ9_min_7cf53 5 = .ok (.iload_n 0, 1) := by decide +kernel
theorem dJ9_min_7cf53_6 : decode cJ9_min_7cf53 6 = .ok (.goto 4, 3) := by decide +kernel
theorem dJ9_min_7cf53_9 : decode cJ9_min_7cf53 9 = .ok (.iload_n 1, 1) := by decide +kernel
theorem dJ9_min_7cf53_10 : decode cJ9_min_7cf53 10 = .ok (.ireturn, 1) := by decide +kernel
