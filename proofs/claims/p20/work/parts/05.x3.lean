theorem dX3_init_0 : decode cX3_init 0 = .ok (.aload_n 0, 1) := by decide +kernel
theorem dX3_init_1 : decode cX3_init 1 = .ok (.invokespecial 1, 3) := by decide +kernel
theorem dX3_init_4 : decode cX3_init 4 = .ok (.aload_n 0, 1) := by decide +kernel
theorem dX3_init_5 : decode cX3_init 5 = .ok (.bipush 12, 2) := by decide +kernel
theorem dX3_init_7 : decode cX3_init 7 = .ok (.anewarray 7, 3) := by decide +kernel
theorem dX3_init_10 : decode cX3_init 10 = .ok (.putfield 9, 3) := by decide +kernel
theorem dX3_init_13 : decode cX3_init 13 = .ok (.aload_n 0, 1) := by decide +kernel
theorem dX3_init_14 : decode cX3_init 14 = .ok (.iconst 0, 1) := by decide +kernel
theorem dX3_init_15 : decode cX3_init 15 = .ok (.anewarray 7, 3) := by decide +kernel
theorem dX3_init_18 : decode cX3_init 18 = .ok (.putfield 15, 3) := by decide +kernel
theorem dX3_init_21 : decode cX3_init 21 = .ok (.aload_n 0, 1) := by decide +kernel
theorem dX3_init_22 : decode cX3_init 22 = .ok (.bipush 12, 2) := by decide +kernel
theorem dX3_init_24 : decode cX3_init 24 = .ok (.newarray .int, 2) := by decide +kernel
theorem dX3_init_26 : decode cX3_init 26 = .ok (.putfield 18, 3) := by decide +kernel
theorem dX3_init_29 : decode cX3_init 29 = .ok (.aload_n 0, 1) := by decide +kernel
theorem dX3_init_30 : decode cX3_init 30 = .ok (.bipush 12, 2) := by decide +kernel
theorem dX3_init_32 : decode cX3_init 32 = .ok (.newarray .int, 2) := by decide +kernel
theorem dX3_init_34 : decode cX3_init 34 = .ok (.putfield 21, 3) := by decide +kernel
theorem dX3_init_37 : decode cX3_init 37 = .ok (.iconst 0, 1) := by decide +kernel
theorem dX3_init_38 : decode cX3_init 38 = .ok (.istore_n 1, 1) := by decide +kernel
theorem dX3_init_39 : decode cX3_init 39 = .ok (.iload_n 1, 1) := by decide +kernel
theorem dX3_init_40 : decode cX3_init 40 = .ok (.bipush 12, 2) := by decide +kernel
theorem dX3_init_42 : decode cX3_init 42 = .ok (.if_icmp .ge 50, 3) := by decide +kernel
theorem dX3_init_45 : decode cX3_init 45 = .ok (.aload_n 0, 1) := by decide +kernel
theorem dX3_init_46 : decode cX3_init 46 = .ok (.getfield 9, 3) := by decide +kernel
theorem dX3_init_49 : decode cX3_init 49 = .ok (.iload_n 1, 1) := by decide +kernel
theorem dX3_init_50 : decode cX3_init 50 = .ok (.bipush 6, 2) := by decide +kernel
theorem dX3_init_52 : decode cX3_init 52 = .ok (.newarray .int, 2) := by decide +kernel
theorem dX3_init_54 : decode cX3_init 54 = .ok (.dup, 1) := by decide +kernel
theorem dX3_init_55 : decode cX3_init 55 = .ok (.iconst 0, 1) := by decide +kernel
theorem dX3_init_56 : decode cX3_init 56 = .ok (.sipush 300, 3) := by decide +kernel
theorem dX3_init_59 : decode cX3_init 59 = .ok (.bipush 20, 2) := by decide +kernel
theorem dX3_init_61 : decode cX3_init 61 = .ok (.iload_n 1, 1) := by decide +kernel
theorem dX3_init_62 : decode cX3_init 62 = .ok (.imul, 1) := by decide +kernel
theorem dX3_init_63 : decode cX3_init 63 = .ok (.iadd, 1) := by decide +kernel
theorem dX3_init_64 : decode cX3_init 64 = .ok (.iastore, 1) := by decide +kernel
theorem dX3_init_65 : decode cX3_init 65 = .ok (.dup, 1) := by decide +kernel
theorem dX3_init_66 : decode cX3_init 66 = .ok (.iconst 1, 1) := by decide +kernel
theorem dX3_init_67 : decode cX3_init 67 = .ok (.iconst 0, 1) := by decide +kernel
theorem dX3_init_68 : decode cX3_init 68 = .ok (.iastore, 1) := by decide +kernel
theorem dX3_init_69 : decode cX3_init 69 = .ok (.dup, 1) := by decide +kernel
theorem dX3_init_70 : decode cX3_init 70 = .ok (.iconst 2, 1) := by decide +kernel
theorem dX3_init_71 : decode cX3_init 71 = .ok (.iconst 0, 1) := by decide +kernel
theorem dX3_init_72 : decode cX3_init 72 = .ok (.iastore, 1) := by decide +kernel
theorem dX3_init_73 : decode cX3_init 73 = .ok (.dup, 1) := by decide +kernel
theorem dX3_init_74 : decode cX3_init 74 = .ok (.iconst 3, 1) := by decide +kernel
theorem dX3_init_75 : decode cX3_init 75 = .ok (.iconst 0, 1) := by decide +kernel
theorem dX3_init_76 : decode cX3_init 76 = .ok (.iastore, 1) := by decide +kernel
theorem dX3_init_77 : decode cX3_init 77 = .ok (.dup, 1) := by decide +kernel
theorem dX3_init_78 : decode cX3_init 78 = .ok (.iconst 4, 1) := by decide +kernel
theorem dX3_init_79 : decode cX3_init 79 = .ok (.iconst 1, 1) := by decide +kernel
theorem dX3_init_80 : decode cX3_init 80 = .ok (.iastore, 1) := by decide +kernel
theorem dX3_init_81 : decode cX3_init 81 = .ok (.dup, 1) := by decide +kernel
theorem dX3_init_82 : decode cX3_init 82 = .ok (.iconst 5, 1) := by decide +kernel
theorem dX3_init_83 : decode cX3_init 83 = .ok (.iconst 0, 1) := by decide +kernel
theorem dX3_init_84 : decode cX3_init 84 = .ok (.iastore, 1) := by decide +kernel
theorem dX3_init_85 : decode cX3_init 85 = .ok (.aastore, 1) := by decide +kernel
theorem dX3_init_86 : decode cX3_init 86 = .ok (.iinc 1 1, 3) := by decide +kernel
theorem dX3_init_89 : decode cX3_init 89 = .ok (.goto (-50), 3) := by decide +kernel
theorem dX3_init_92 : decode cX3_init 92 = .ok (.return_, 1) := by decide +kernel
theorem dX3_tone_0 : decode cX3_tone 0 = .ok (.aload_n 0, 1) := by decide +kernel
theorem dX3_tone_1 : decode cX3_tone 1 = .ok (.getfield 9, 3) := by decide +kernel
theorem dX3_tone_4 : decode cX3_tone 4 = .ok (.iload_n 1, 1) := by decide +kernel
theorem dX3_tone_5 : decode cX3_tone 5 = .ok (.aaload, 1) := by decide +kernel
theorem dX3_tone_6 : decode cX3_tone 6 = .ok (.astore_n 2, 1) := by decide +kernel
theorem dX3_tone_7 : decode cX3_tone 7 = .ok (.aload_n 2, 1) := by decide +kernel
theorem dX3_tone_8 : decode cX3_tone 8 = .ok (.iconst 4, 1) := by decide +kernel
theorem dX3_tone_9 : decode cX3_tone 9 = .ok (.iaload, 1) := by decide +kernel
theorem dX3_tone_10 : decode cX3_tone 10 = .ok (.ifCond .ne 5, 3) := by decide +kernel
theorem dX3_tone_13 : decode cX3_tone 13 = .ok (.iconst 0, 1) := by decide +kernel
theorem dX3_tone_14 : decode cX3_tone 14 = .ok (.ireturn, 1) := by decide +kernel
theorem dX3_tone_15 : decode cX3_tone 15 = .ok (.aload_n 2, 1) := by decide +kernel
theorem dX3_tone_16 : decode cX3_tone 16 = .ok (.iconst 0, 1) := by decide +kernel
theorem dX3_tone_17 : decode cX3_tone 17 = .ok (.iaload, 1) := by decide +kernel
theorem dX3_tone_18 : decode cX3_tone 18 = .ok (.aload_n 2, 1) := by decide +kernel
theorem dX3_tone_19 : decode cX3_tone 19 = .ok (.iconst 2, 1) := by decide +kernel
theorem dX3_tone_20 : decode cX3_tone 20 = .ok (.iaload, 1) := by decide +kernel
theorem dX3_tone_21 : decode cX3_tone 21 = .ok (.iadd, 1) := by decide +kernel
theorem dX3_tone_22 : decode cX3_tone 22 = .ok (.bipush 10, 2) := by decide +kernel
theorem dX3_tone_24 : decode cX3_tone 24 = .ok (.aload_n 2, 1) := by decide +kernel
theorem dX3_tone_25 : decode cX3_tone 25 = .ok (.iconst 1, 1) := by decide +kernel
theorem dX3_tone_26 : decode cX3_tone 26 = .ok (.iaload, 1) := by decide +kernel
theorem dX3_tone_27 : decode cX3_tone 27 = .ok (.imul, 1) := by decide +kernel
theorem dX3_tone_28 : decode cX3_tone 28 = .ok (.iadd, 1) := by decide +kernel
theorem dX3_tone_29 : decode cX3_tone 29 = .ok (.aload_n 0, 1) := by decide +kernel
theorem dX3_tone_30 : decode cX3_tone 30 = .ok (.getfield 29, 3) := by decide +kernel
theorem dX3_tone_33 : decode cX3_tone 33 = .ok (.isub, 1) := by decide +kernel
theorem dX3_tone_34 : decode cX3_tone 34 = .ok (.istore_n 3, 1) := by decide +kernel
theorem dX3_tone_35 : decode cX3_tone 35 = .ok (.iload_n 1, 1) := by decide +kernel
theorem dX3_tone_36 : decode cX3_tone 36 = .ok (.ifCond .le 18, 3) := by decide +kernel
theorem dX3_tone_39 : decode cX3_tone 39 = .ok (.iload_n 3, 1) := by decide +kernel
theorem dX3_tone_40 : decode cX3_tone 40 = .ok (.iconst 3, 1) := by decide +kernel
theorem dX3_tone_41 : decode cX3_tone 41 = .ok (.aload_n 0, 1) := by decide +kernel
theorem dX3_tone_42 : decode cX3_tone 42 = .ok (.getfield 9, 3) := by decide +kernel
theorem dX3_tone_45 : decode cX3_tone 45 = .ok (.iload_n 1, 1) := by decide +kernel
theorem dX3_tone_46 : decode cX3_tone 46 = .ok (.iconst 1, 1) := by decide +kernel
theorem dX3_tone_47 : decode cX3_tone 47 = .ok (.isub, 1) := by decide +kernel
theorem dX3_tone_48 : decode cX3_tone 48 = .ok (.aaload, 1) := by decide +kernel
theorem dX3_tone_49 : decode cX3_tone 49 = .ok (.iconst 1, 1) := by decide +kernel
theorem dX3_tone_50 : decode cX3_tone 50 = .ok (.iaload, 1) := by decide +kernel
theorem dX3_tone_51 : decode cX3_tone 51 = .ok (.imul, 1) := by decide +kernel
theorem dX3_tone_52 : decode cX3_tone 52 = .ok (.iadd, 1) := by decide +kernel
theorem dX3_tone_53 : decode cX3_tone 53 = .ok (.istore_n 3, 1) := by decide +kernel
theorem dX3_tone_54 : decode cX3_tone 54 = .ok (.iload_n 1, 1) := by decide +kernel
theorem dX3_tone_55 : decode cX3_tone 55 = .ok (.bipush 11, 2) := by decide +kernel
theorem dX3_tone_57 : decode cX3_tone 57 = .ok (.if_icmp .ge 18, 3) := by decide +kernel
theorem dX3_tone_60 : decode cX3_tone 60 = .ok (.iload_n 3, 1) := by decide +kernel
theorem dX3_tone_61 : decode cX3_tone 61 = .ok (.iconst 3, 1) := by decide +kernel
theorem dX3_tone_62 : decode cX3_tone 62 = .ok (.aload_n 0, 1) := by decide +kernel
theorem dX3_tone_63 : decode cX3_tone 63 = .ok (.getfield 9, 3) := by decide +kernel
theorem dX3_tone_66 : decode cX3_tone 66 = .ok (.iload_n 1, 1) := by decide +kernel
theorem dX3_tone_67 : decode cX3_tone 67 = .ok (.iconst 1, 1) := by decide +kernel
theorem dX3_tone_68 : decode cX3_tone 68 = .ok (.iadd, 1) := by decide +kernel
theorem dX3_tone_69 : decode cX3_tone 69 = .ok (.aaload, 1) := by decide +kernel
theorem dX3_tone_70 : decode cX3_tone 70 = .ok (.iconst 1, 1) := by decide +kernel
theorem dX3_tone_71 : decode cX3_tone 71 = .ok (.iaload, 1) := by decide +kernel
theorem dX3_tone_72 : decode cX3_tone 72 = .ok (.imul, 1) := by decide +kernel
theorem dX3_tone_73 : decode cX3_tone 73 = .ok (.iadd, 1) := by decide +kernel
theorem dX3_tone_74 : decode cX3_tone 74 = .ok (.istore_n 3, 1) := by decide +kernel
theorem dX3_tone_75 : decode cX3_tone 75 = .ok (.iload_n 3, 1) := by decide +kernel
theorem dX3_tone_76 : decode cX3_tone 76 = .ok (.ireturn, 1) := by decide +kernel
set_option maxRecDepth 20000 in
theorem ggX3_off_X3_tone : GoodIn wsX3_off wsX3_tone := goodIn_r _ [5, 6, 7, 8, 9, 10, 11, 12, 13] (by decide +kernel) (by decide +kernel)
set_option maxRecDepth 20000 in
theorem gX3_off_X3_tone : GoodIn wsX3_off (wsV RX3 32 RX3 yX3_tone wsX3_tone) := goodIn_app (goodIn_of _ (by decide +kernel)) ggX3_off_X3_tone
theorem dX3_off_0 : decode cX3_off 0 = .ok (.iconst 0, 1) := by decide +kernel
theorem dX3_off_1 : decode cX3_off 1 = .ok (.istore_n 2, 1) := by decide +kernel
theorem dX3_off_2 : decode cX3_off 2 = .ok (.iconst 1, 1) := by decide +kernel
theorem dX3_off_3 : decode cX3_off 3 = .ok (.istore_n 3, 1) := by decide +kernel
theorem dX3_off_4 : decode cX3_off 4 = .ok (.iload_n 3, 1) := by decide +kernel
theorem dX3_off_5 : decode cX3_off 5 = .ok (.aload_n 1, 1) := by decide +kernel
theorem dX3_off_6 : decode cX3_off 6 = .ok (.arraylength, 1) := by decide +kernel
theorem dX3_off_7 : decode cX3_off 7 = .ok (.if_icmp .ge 42, 3) := by decide +kernel
theorem dX3_off_10 : decode cX3_off 10 = .ok (.aload_n 0, 1) := by decide +kernel
theorem dX3_off_11 : decode cX3_off 11 = .ok (.aload_n 1, 1) := by decide +kernel
theorem dX3_off_12 : decode cX3_off 12 = .ok (.iconst 0, 1) := by decide +kernel
theorem dX3_off_13 : decode cX3_off 13 = .ok (.iaload, 1) := by decide +kernel
theorem dX3_off_14 : decode cX3_off 14 = .ok (.iload_n 3, 1) := by decide +kernel
theorem dX3_off_15 : decode cX3_off 15 = .ok (.iadd, 1) := by decide +kernel
theorem dX3_off_16 : decode cX3_off 16 = .ok (.iconst 1, 1) := by decide +kernel
theorem dX3_off_17 : decode cX3_off 17 = .ok (.isub, 1) := by decide +kernel
theorem dX3_off_18 : decode cX3_off 18 = .ok (.invokevirtual 32, 3) := by decide +kernel
theorem dX3_off_21 : decode cX3_off 21 = .ok (.aload_n 1, 1) := by decide +kernel
theorem dX3_off_22 : decode cX3_off 22 = .ok (.iload_n 3, 1) := by decide +kernel
theorem dX3_off_23 : decode cX3_off 23 = .ok (.iaload, 1) := by decide +kernel
theorem dX3_off_24 : decode cX3_off 24 = .ok (.isub, 1) := by decide +kernel
theorem dX3_off_25 : decode cX3_off 25 = .ok (.istore 4, 2) := by decide +kernel
theorem dX3_off_27 : decode cX3_off 27 = .ok (.iload_n 2, 1) := by decide +kernel
theorem dX3_off_28 : decode cX3_off 28 = .ok (.iload 4, 2) := by decide +kernel
theorem dX3_off_30 : decode cX3_off 30 = .ok (.ifCond .ge 9, 3) := by decide +kernel
theorem dX3_off_33 : decode cX3_off 33 = .ok (.iload 4, 2) := by decide +kernel
theorem dX3_off_35 : decode cX3_off 35 = .ok (.ineg, 1) := by decide +kernel
theorem dX3_off_36 : decode cX3_off 36 = .ok (.goto 5, 3) := by decide +kernel
theorem dX3_off_39 : decode cX3_off 39 = .ok (.iload 4, 2) := by decide +kernel
theorem dX3_off_41 : decode cX3_off 41 = .ok (.iadd, 1) := by decide +kernel
theorem dX3_off_42 : decode cX3_off 42 = .ok (.istore_n 2, 1) := by decide +kernel
theorem dX3_off_43 : decode cX3_off 43 = .ok (.iinc 3 1, 3) := by decide +kernel
theorem dX3_off_46 : decode cX3_off 46 = .ok (.goto (-42), 3) := by decide +kernel
theorem dX3_off_49 : decode cX3_off 49 = .ok (.iload_n 2, 1) := by decide +kernel
theorem dX3_off_50 : decode cX3_off 50 = .ok (.ireturn, 1) := by decide +kernel
set_option maxRecDepth 20000 in
theorem ggX3_sounds_X3_tone : GoodIn wsX3_sounds wsX3_tone := goodIn_r _ [6, 1, 7, 8, 9, 10, 11, 12, 13] (by decide +kernel) (by decide +kernel)
set_option maxRecDepth 20000 in
theorem gX3_sounds_X3_tone : GoodIn wsX3_sounds (wsV RX3 32 RX3 yX3_tone wsX3_tone) := goodIn_app (goodIn_of _ (by decide +kernel)) ggX3_sounds_X3_tone
theorem dX3_sounds_0 : decode cX3_sounds 0 = .ok (.iconst 1, 1) := by decide +kernel
theorem dX3_sounds_1 : decode cX3_sounds 1 = .ok (.istore_n 2, 1) := by decide +kernel
theorem dX3_sounds_2 : decode cX3_sounds 2 = .ok (.iload_n 2, 1) := by decide +kernel
theorem dX3_sounds_3 : decode cX3_sounds 3 = .ok (.aload_n 1, 1) := by decide +kernel
theorem dX3_sounds_4 : decode cX3_sounds 4 = .ok (.arraylength, 1) := by decide +kernel
theorem dX3_sounds_5 : decode cX3_sounds 5 = .ok (.if_icmp .ge 55, 3) := by decide +kernel
theorem dX3_sounds_8 : decode cX3_sounds 8 = .ok (.aload_n 0, 1) := by decide +kernel
theorem dX3_sounds_9 : decode cX3_sounds 9 = .ok (.aload_n 1, 1) := by decide +kernel
theorem dX3_sounds_10 : decode cX3_sounds 10 = .ok (.iconst 0, 1) := by decide +kernel
theorem dX3_sounds_11 : decode cX3_sounds 11 = .ok (.iaload, 1) := by decide +kernel
theorem dX3_sounds_12 : decode cX3_sounds 12 = .ok (.iload_n 2, 1) := by decide +kernel
theorem dX3_sounds_13 : decode cX3_sounds 13 = .ok (.iadd, 1) := by decide +kernel
theorem dX3_sounds_14 : decode cX3_sounds 14 = .ok (.iconst 1, 1) := by decide +kernel
theorem dX3_sounds_15 : decode cX3_sounds 15 = .ok (.isub, 1) := by decide +kernel
theorem dX3_sounds_16 : decode cX3_sounds 16 = .ok (.invokevirtual 32, 3) := by decide +kernel
theorem dX3_sounds_19 : decode cX3_sounds 19 = .ok (.aload_n 1, 1) := by decide +kernel
theorem dX3_sounds_20 : decode cX3_sounds 20 = .ok (.iload_n 2, 1) := by decide +kernel
theorem dX3_sounds_21 : decode cX3_sounds 21 = .ok (.iaload, 1) := by decide +kernel
theorem dX3_sounds_22 : decode cX3_sounds 22 = .ok (.isub, 1) := by decide +kernel
theorem dX3_sounds_23 : decode cX3_sounds 23 = .ok (.istore_n 3, 1) := by decide +kernel
theorem dX3_sounds_24 : decode cX3_sounds 24 = .ok (.iload_n 3, 1) := by decide +kernel
theorem dX3_sounds_25 : decode cX3_sounds 25 = .ok (.iconst 5, 1) := by decide +kernel
theorem dX3_sounds_26 : decode cX3_sounds 26 = .ok (.if_icmp .gt 26, 3) := by decide +kernel
theorem dX3_sounds_29 : decode cX3_sounds 29 = .ok (.iload_n 3, 1) := by decide +kernel
theorem dX3_sounds_30 : decode cX3_sounds 30 = .ok (.bipush (-5), 2) := by decide +kernel
theorem dX3_sounds_32 : decode cX3_sounds 32 = .ok (.if_icmp .lt 20, 3) := by decide +kernel
theorem dX3_sounds_35 : decode cX3_sounds 35 = .ok (.aload_n 0, 1) := by decide +kernel
theorem dX3_sounds_36 : decode cX3_sounds 36 = .ok (.getfield 9, 3) := by decide +kernel
theorem dX3_sounds_39 : decode cX3_sounds 39 = .ok (.aload_n 1, 1) := by decide +kernel
theorem dX3_sounds_40 : decode cX3_sounds 40 = .ok (.iconst 0, 1) := by decide +kernel
theorem dX3_sounds_41 : decode cX3_sounds 41 = .ok (.iaload, 1) := by decide +kernel
theorem dX3_sounds_42 : decode cX3_sounds 42 = .ok (.iload_n 2, 1) := by decide +kernel
theorem dX3_sounds_43 : decode cX3_sounds 43 = .ok (.iadd, 1) := by decide +kernel
theorem dX3_sounds_44 : decode cX3_sounds 44 = .ok (.iconst 1, 1) := by decide +kernel
theorem dX3_sounds_45 : decode cX3_sounds 45 = .ok (.isub, 1) := by decide +kernel
theorem dX3_sounds_46 : decode cX3_sounds 46 = .ok (.aaload, 1) := by decide +kernel
theorem dX3_sounds_47 : decode cX3_sounds 47 = .ok (.iconst 4, 1) := by decide +kernel
theorem dX3_sounds_48 : decode cX3_sounds 48 = .ok (.iaload, 1) := by decide +kernel
theorem dX3_sounds_49 : decode cX3_sounds 49 = .ok (.ifCond .ne 5, 3) := by decide +kernel
theorem dX3_sounds_52 : decode cX3_sounds 52 = .ok (.iconst 0, 1) := by decide +kernel
theorem dX3_sounds_53 : decode cX3_sounds 53 = .ok (.ireturn, 1) := by decide +kernel
theorem dX3_sounds_54 : decode cX3_sounds 54 = .ok (.iinc 2 1, 3) := by decide +kernel
theorem dX3_sounds_57 : decode cX3_sounds 57 = .ok (.goto (-55), 3) := by decide +kernel
theorem dX3_sounds_60 : decode cX3_sounds 60 = .ok (.iconst 1, 1) := by decide +kernel
theorem dX3_sounds_61 : decode cX3_sounds 61 = .ok (.ireturn, 1) := by decide +kernel
set_option maxRecDepth 20000 in
theorem ggX3_pass_X3_tone : GoodIn wsX3_pass wsX3_tone := goodIn_r _ [17, 4, 5, 18, 19, 20, 21, 22, 23] (by decide +kernel) (by decide +kernel)
set_option maxRecDepth 20000 in
theorem gX3_pass_X3_tone : GoodIn wsX3_pass (wsV RX3 32 RX3 yX3_tone wsX3_tone) := goodIn_app (goodIn_of _ (by decide +kernel)) ggX3_pass_X3_tone
theorem dX3_pass_0 : decode cX3_pass 0 = .ok (.aload_n 0, 1) := by decide +kernel
theorem dX3_pass_1 : decode cX3_pass 1 = .ok (.getfield 21, 3) := by decide +kernel
theorem dX3_pass_4 : decode cX3_pass 4 = .ok (.aload_n 0, 1) := by decide +kernel
theorem dX3_pass_5 : decode cX3_pass 5 = .ok (.getfield 25, 3) := by decide +kernel
theorem dX3_pass_8 : decode cX3_pass 8 = .ok (.bipush 12, 2) := by decide +kernel
theorem dX3_pass_10 : decode cX3_pass 10 = .ok (.irem, 1) := by decide +kernel
theorem dX3_pass_11 : decode cX3_pass 11 = .ok (.iaload, 1) := by decide +kernel
theorem dX3_pass_12 : decode cX3_pass 12 = .ok (.istore_n 2, 1) := by decide +kernel
theorem dX3_pass_13 : decode cX3_pass 13 = .ok (.iconst 0, 1) := by decide +kernel
theorem dX3_pass_14 : decode cX3_pass 14 = .ok (.istore_n 3, 1) := by decide +kernel
theorem dX3_pass_15 : decode cX3_pass 15 = .ok (.bipush 12, 2) := by decide +kernel
theorem dX3_pass_17 : decode cX3_pass 17 = .ok (.newarray .int, 2) := by decide +kernel
theorem dX3_pass_19 : decode cX3_pass 19 = .ok (.astore 4, 2) := by decide +kernel
theorem dX3_pass_21 : decode cX3_pass 21 = .ok (.iconst 0, 1) := by decide +kernel
theorem dX3_pass_22 : decode cX3_pass 22 = .ok (.istore 5, 2) := by decide +kernel
theorem dX3_pass_24 : decode cX3_pass 24 = .ok (.iload 5, 2) := by decide +kernel
theorem dX3_pass_26 : decode cX3_pass 26 = .ok (.bipush 12, 2) := by decide +kernel
theorem dX3_pass_28 : decode cX3_pass 28 = .ok (.if_icmp .ge 20, 3) := by decide +kernel
theorem dX3_pass_31 : decode cX3_pass 31 = .ok (.aload 4, 2) := by decide +kernel
theorem dX3_pass_33 : decode cX3_pass 33 = .ok (.iload 5, 2) := by decide +kernel
theorem dX3_pass_35 : decode cX3_pass 35 = .ok (.aload_n 0, 1) := by decide +kernel
theorem dX3_pass_36 : decode cX3_pass 36 = .ok (.iload 5, 2) := by decide +kernel
theorem dX3_pass_38 : decode cX3_pass 38 = .ok (.invokevirtual 32, 3) := by decide +kernel
theorem dX3_pass_41 : decode cX3_pass 41 = .ok (.iastore, 1) := by decide +kernel
theorem dX3_pass_42 : decode cX3_pass 42 = .ok (.iinc 5 1, 3) := by decide +kernel
theorem dX3_pass_45 : decode cX3_pass 45 = .ok (.goto (-21), 3) := by decide +kernel
theorem dX3_pass_48 : decode cX3_pass 48 = .ok (.iconst 0, 1) := by decide +kernel
theorem dX3_pass_49 : decode cX3_pass 49 = .ok (.istore 5, 2) := by decide +kernel
theorem dX3_pass_51 : decode cX3_pass 51 = .ok (.iload 5, 2) := by decide +kernel
theorem dX3_pass_53 : decode cX3_pass 53 = .ok (.bipush 12, 2) := by decide +kernel
theorem dX3_pass_55 : decode cX3_pass 55 = .ok (.if_icmp .ge 157, 3) := by decide +kernel
theorem dX3_pass_58 : decode cX3_pass 58 = .ok (.aload_n 0, 1) := by decide +kernel
theorem dX3_pass_59 : decode cX3_pass 59 = .ok (.getfield 9, 3) := by decide +kernel
theorem dX3_pass_62 : decode cX3_pass 62 = .ok (.iload 5, 2) := by decide +kernel
theorem dX3_pass_64 : decode cX3_pass 64 = .ok (.aaload, 1) := by decide +kernel
theorem dX3_pass_65 : decode cX3_pass 65 = .ok (.astore 6, 2) := by decide +kernel
theorem dX3_pass_67 : decode cX3_pass 67 = .ok (.aload 6, 2) := by decide +kernel
theorem dX3_pass_69 : decode cX3_pass 69 = .ok (.iconst 4, 1) := by decide +kernel
theorem dX3_pass_70 : decode cX3_pass 70 = .ok (.iaload, 1) := by decide +kernel
theorem dX3_pass_71 : decode cX3_pass 71 = .ok (.ifCond .ne 6, 3) := by decide +kernel
theorem dX3_pass_74 : decode cX3_pass 74 = .ok (.goto 132, 3) := by decide +kernel
theorem dX3_pass_77 : decode cX3_pass 77 = .ok (.aload 6, 2) := by decide +kernel
theorem dX3_pass_79 : decode cX3_pass 79 = .ok (.iconst 3, 1) := by decide +kernel
theorem dX3_pass_80 : decode cX3_pass 80 = .ok (.dup2, 1) := by decide +kernel
theorem dX3_pass_81 : decode cX3_pass 81 = .ok (.iaload, 1) := by decide +kernel
theorem dX3_pass_82 : decode cX3_pass 82 = .ok (.iload_n 1, 1) := by decide +kernel
theorem dX3_pass_83 : decode cX3_pass 83 = .ok (.aload 4, 2) := by decide +kernel
theorem dX3_pass_85 : decode cX3_pass 85 = .ok (.iload 5, 2) := by decide +kernel
theorem dX3_pass_87 : decode cX3_pass 87 = .ok (.iaload, 1) := by decide +kernel
theorem dX3_pass_88 : decode cX3_pass 88 = .ok (.imul, 1) := by decide +kernel
theorem dX3_pass_89 : decode cX3_pass 89 = .ok (.sipush 1000, 3) := by decide +kernel
theorem dX3_pass_92 : decode cX3_pass 92 = .ok (.idiv, 1) := by decide +kernel
theorem dX3_pass_93 : decode cX3_pass 93 = .ok (.iadd, 1) := by decide +kernel
theorem dX3_pass_94 : decode cX3_pass 94 = .ok (.iastore, 1) := by decide +kernel
theorem dX3_pass_95 : decode cX3_pass 95 = .ok (.aload 6, 2) := by decide +kernel
theorem dX3_pass_97 : decode cX3_pass 97 = .ok (.iconst 3, 1) := by decide +kernel
theorem dX3_pass_98 : decode cX3_pass 98 = .ok (.aload 6, 2) := by decide +kernel
theorem dX3_pass_100 : decode cX3_pass 100 = .ok (.iconst 3, 1) := by decide +kernel
theorem dX3_pass_101 : decode cX3_pass 101 = .ok (.iaload, 1) := by decide +kernel
theorem dX3_pass_102 : decode cX3_pass 102 = .ok (.iconst 2, 1) := by decide +kernel
theorem dX3_pass_103 : decode cX3_pass 103 = .ok (.if_icmp .ge 7, 3) := by decide +kernel
theorem dX3_pass_106 : decode cX3_pass 106 = .ok (.iconst 0, 1) := by decide +kernel
theorem dX3_pass_107 : decode cX3_pass 107 = .ok (.goto 9, 3) := by decide +kernel
theorem dX3_pass_110 : decode cX3_pass 110 = .ok (.aload 6, 2) := by decide +kernel
theorem dX3_pass_112 : decode cX3_pass 112 = .ok (.iconst 3, 1) := by decide +kernel
theorem dX3_pass_113 : decode cX3_pass 113 = .ok (.iaload, 1) := by decide +kernel
theorem dX3_pass_114 : decode cX3_pass 114 = .ok (.iconst 2, 1) := by decide +kernel
theorem dX3_pass_115 : decode cX3_pass 115 = .ok (.isub, 1) := by decide +kernel
theorem dX3_pass_116 : decode cX3_pass 116 = .ok (.iastore, 1) := by decide +kernel
theorem dX3_pass_117 : decode cX3_pass 117 = .ok (.aload 6, 2) := by decide +kernel
theorem dX3_pass_119 : decode cX3_pass 119 = .ok (.iconst 3, 1) := by decide +kernel
theorem dX3_pass_120 : decode cX3_pass 120 = .ok (.iaload, 1) := by decide +kernel
theorem dX3_pass_121 : decode cX3_pass 121 = .ok (.bipush 100, 2) := by decide +kernel
theorem dX3_pass_123 : decode cX3_pass 123 = .ok (.if_icmp .le 32, 3) := by decide +kernel
theorem dX3_pass_126 : decode cX3_pass 126 = .ok (.aload 6, 2) := by decide +kernel
theorem dX3_pass_128 : decode cX3_pass 128 = .ok (.iconst 4, 1) := by decide +kernel
theorem dX3_pass_129 : decode cX3_pass 129 = .ok (.iconst 0, 1) := by decide +kernel
theorem dX3_pass_130 : decode cX3_pass 130 = .ok (.iastore, 1) := by decide +kernel
theorem dX3_pass_131 : decode cX3_pass 131 = .ok (.aload 6, 2) := by decide +kernel
theorem dX3_pass_133 : decode cX3_pass 133 = .ok (.iconst 3, 1) := by decide +kernel
theorem dX3_pass_134 : decode cX3_pass 134 = .ok (.iconst 0, 1) := by decide +kernel
theorem dX3_pass_135 : decode cX3_pass 135 = .ok (.iastore, 1) := by decide +kernel
theorem dX3_pass_136 : decode cX3_pass 136 = .ok (.aload 6, 2) := by decide +kernel
theorem dX3_pass_138 : decode cX3_pass 138 = .ok (.iconst 2, 1) := by decide +kernel
theorem dX3_pass_139 : decode cX3_pass 139 = .ok (.iconst 0, 1) := by decide +kernel
theorem dX3_pass_140 : decode cX3_pass 140 = .ok (.iastore, 1) := by decide +kernel
theorem dX3_pass_141 : decode cX3_pass 141 = .ok (.aload 6, 2) := by decide +kernel
theorem dX3_pass_143 : decode cX3_pass 143 = .ok (.iconst 5, 1) := by decide +kernel
theorem dX3_pass_144 : decode cX3_pass 144 = .ok (.dup2, 1) := by decide +kernel
theorem dX3_pass_145 : decode cX3_pass 145 = .ok (.iaload, 1) := by decide +kernel
theorem dX3_pass_146 : decode cX3_pass 146 = .ok (.iconst 1, 1) := by decide +kernel
theorem dX3_pass_147 : decode cX3_pass 147 = .ok (.iadd, 1) := by decide +kernel
theorem dX3_pass_148 : decode cX3_pass 148 = .ok (.iastore, 1) := by decide +kernel
theorem dX3_pass_149 : decode cX3_pass 149 = .ok (.iinc 3 1, 3) := by decide +kernel
theorem dX3_pass_152 : decode cX3_pass 152 = .ok (.goto 54, 3) := by decide +kernel
theorem dX3_pass_155 : decode cX3_pass 155 = .ok (.aload 6, 2) := by decide +kernel
theorem dX3_pass_157 : decode cX3_pass 157 = .ok (.iconst 3, 1) := by decide +kernel
theorem dX3_pass_158 : decode cX3_pass 158 = .ok (.iaload, 1) := by decide +kernel
theorem dX3_pass_159 : decode cX3_pass 159 = .ok (.bipush 49, 2) := by decide +kernel
theorem dX3_pass_161 : decode cX3_pass 161 = .ok (.if_icmp .le 23, 3) := by decide +kernel
theorem dX3_pass_164 : decode cX3_pass 164 = .ok (.aload 6, 2) := by decide +kernel
theorem dX3_pass_166 : decode cX3_pass 166 = .ok (.iconst 2, 1) := by decide +kernel
theorem dX3_pass_167 : decode cX3_pass 167 = .ok (.iaload, 1) := by decide +kernel
theorem dX3_pass_168 : decode cX3_pass 168 = .ok (.bipush (-50), 2) := by decide +kernel
theorem dX3_pass_170 : decode cX3_pass 170 = .ok (.if_icmp .le 36, 3) := by decide +kernel
theorem dX3_pass_173 : decode cX3_pass 173 = .ok (.aload 6, 2) := by decide +kernel
theorem dX3_pass_175 : decode cX3_pass 175 = .ok (.iconst 2, 1) := by decide +kernel
theorem dX3_pass_176 : decode cX3_pass 176 = .ok (.dup2, 1) := by decide +kernel
theorem dX3_pass_177 : decode cX3_pass 177 = .ok (.iaload, 1) := by decide +kernel
theorem dX3_pass_178 : decode cX3_pass 178 = .ok (.iconst 1, 1) := by decide +kernel
theorem dX3_pass_179 : decode cX3_pass 179 = .ok (.isub, 1) := by decide +kernel
theorem dX3_pass_180 : decode cX3_pass 180 = .ok (.iastore, 1) := by decide +kernel
theorem dX3_pass_181 : decode cX3_pass 181 = .ok (.goto 25, 3) := by decide +kernel
theorem dX3_pass_184 : decode cX3_pass 184 = .ok (.iload_n 2, 1) := by decide +kernel
theorem dX3_pass_185 : decode cX3_pass 185 = .ok (.iconst 5, 1) := by decide +kernel
theorem dX3_pass_186 : decode cX3_pass 186 = .ok (.if_icmp .le 20, 3) := by decide +kernel
theorem dX3_pass_189 : decode cX3_pass 189 = .ok (.aload 6, 2) := by decide +kernel
theorem dX3_pass_191 : decode cX3_pass 191 = .ok (.iconst 2, 1) := by decide +kernel
theorem dX3_pass_192 : decode cX3_pass 192 = .ok (.iaload, 1) := by decide +kernel
theorem dX3_pass_193 : decode cX3_pass 193 = .ok (.bipush 50, 2) := by decide +kernel
theorem dX3_pass_195 : decode cX3_pass 195 = .ok (.if_icmp .ge 11, 3) := by decide +kernel
theorem dX3_pass_198 : decode cX3_pass 198 = .ok (.aload 6, 2) := by decide +kernel
theorem dX3_pass_200 : decode cX3_pass 200 = .ok (.iconst 2, 1) := by decide +kernel
theorem dX3_pass_201 : decode cX3_pass 201 = .ok (.dup2, 1) := by decide +kernel
theorem dX3_pass_202 : decode cX3_pass 202 = .ok (.iaload, 1) := by decide +kernel
theorem dX3_pass_203 : decode cX3_pass 203 = .ok (.iconst 1, 1) := by decide +kernel
theorem dX3_pass_204 : decode cX3_pass 204 = .ok (.iadd, 1) := by decide +kernel
theorem dX3_pass_205 : decode cX3_pass 205 = .ok (.iastore, 1) := by decide +kernel
theorem dX3_pass_206 : decode cX3_pass 206 = .ok (.iinc 5 1, 3) := by decide +kernel
theorem dX3_pass_209 : decode cX3_pass 209 = .ok (.goto (-158), 3) := by decide +kernel
theorem dX3_pass_212 : decode cX3_pass 212 = .ok (.iload_n 2, 1) := by decide +kernel
theorem dX3_pass_213 : decode cX3_pass 213 = .ok (.iconst 4, 1) := by decide +kernel
theorem dX3_pass_214 : decode cX3_pass 214 = .ok (.if_icmp .le 21, 3) := by decide +kernel
theorem dX3_pass_217 : decode cX3_pass 217 = .ok (.aload_n 0, 1) := by decide +kernel
theorem dX3_pass_218 : decode cX3_pass 218 = .ok (.bipush 30, 2) := by decide +kernel
theorem dX3_pass_220 : decode cX3_pass 220 = .ok (.aload_n 0, 1) := by decide +kernel
theorem dX3_pass_221 : decode cX3_pass 221 = .ok (.getfield 29, 3) := by decide +kernel
theorem dX3_pass_224 : decode cX3_pass 224 = .ok (.iconst 1, 1) := by decide +kernel
theorem dX3_pass_225 : decode cX3_pass 225 = .ok (.iadd, 1) := by decide +kernel
theorem dX3_pass_226 : decode cX3_pass 226 = .ok (.invokestatic 49, 3) := by decide +kernel
theorem dX3_pass_229 : decode cX3_pass 229 = .ok (.putfield 29, 3) := by decide +kernel
theorem dX3_pass_232 : decode cX3_pass 232 = .ok (.goto 17, 3) := by decide +kernel
theorem dX3_pass_235 : decode cX3_pass 235 = .ok (.aload_n 0, 1) := by decide +kernel
theorem dX3_pass_236 : decode cX3_pass 236 = .ok (.iconst 0, 1) := by decide +kernel
theorem dX3_pass_237 : decode cX3_pass 237 = .ok (.aload_n 0, 1) := by decide +kernel
theorem dX3_pass_238 : decode cX3_pass 238 = .ok (.getfield 29, 3) := by decide +kernel
theorem dX3_pass_241 : decode cX3_pass 241 = .ok (.iconst 1, 1) := by decide +kernel
theorem dX3_pass_242 : decode cX3_pass 242 = .ok (.isub, 1) := by decide +kernel
theorem dX3_pass_243 : decode cX3_pass 243 = .ok (.invokestatic 53, 3) := by decide +kernel
theorem dX3_pass_246 : decode cX3_pass 246 = .ok (.putfield 29, 3) := by decide +kernel
theorem dX3_pass_249 : decode cX3_pass 249 = .ok (.aload_n 0, 1) := by decide +kernel
theorem dX3_pass_250 : decode cX3_pass 250 = .ok (.dup, 1) := by decide +kernel
theorem dX3_pass_251 : decode cX3_pass 251 = .ok (.getfield 25, 3) := by decide +kernel
theorem dX3_pass_254 : decode cX3_pass 254 = .ok (.iconst 1, 1) := by decide +kernel
theorem dX3_pass_255 : decode cX3_pass 255 = .ok (.iadd, 1) := by decide +kernel
theorem dX3_pass_256 : decode cX3_pass 256 = .ok (.putfield 25, 3) := by decide +kernel
theorem dX3_pass_259 : decode cX3_pass 259 = .ok (.iload_n 3, 1) := by decide +kernel
theorem dX3_pass_260 : decode cX3_pass 260 = .ok (.ireturn, 1) := by decide +kernel
set_option maxRecDepth 20000 in
theorem ggX3_pass__X3_pass : GoodIn wsX3_pass_ wsX3_pass := goodIn_r _ [7, 8, 2, 9, 10, 11, 12, 13, 14, 15, 16, 17, 18, 19, 20, 21, 6, 22, 23, 24, 25, 26, 27, 28] (by decide +kernel) (by decide +kernel)
set_option maxRecDepth 20000 in
theorem gX3_pass__X3_pass : GoodIn wsX3_pass_ (wsV RX3 56 RX3 yX3_pass wsX3_pass) := goodIn_app (goodIn_of _ (by decide +kernel)) ggX3_pass__X3_pass
theorem dX3_pass__0 : decode cX3_pass_ 0 = .ok (.aload_n 0, 1) := by decide +kernel
theorem dX3_pass__1 : decode cX3_pass_ 1 = .ok (.aload_n 0, 1) := by decide +kernel
theorem dX3_pass__2 : decode cX3_pass_ 2 = .ok (.getfield 18, 3) := by decide +kernel
theorem dX3_pass__5 : decode cX3_pass_ 5 = .ok (.aload_n 0, 1) := by decide +kernel
theorem dX3_pass__6 : decode cX3_pass_ 6 = .ok (.getfield 25, 3) := by decide +kernel
theorem dX3_pass__9 : decode cX3_pass_ 9 = .ok (.bipush 12, 2) := by decide +kernel
theorem dX3_pass__11 : decode cX3_pass_ 11 = .ok (.irem, 1) := by decide +kernel
theorem dX3_pass__12 : decode cX3_pass_ 12 = .ok (.iaload, 1) := by decide +kernel
theorem dX3_pass__13 : decode cX3_pass_ 13 = .ok (.invokevirtual 56, 3) := by decide +kernel
theorem dX3_pass__16 : decode cX3_pass_ 16 = .ok (.ireturn, 1) := by decide +kernel
set_option maxRecDepth 20000 in
theorem ggX3_isSame_X2_string : GoodIn wsX3_isSame wsX2_string := goodIn_ca (goodIn_r _ [10, 11, 12, 13, 14, 15, 9, 16, 17, 18, 19, 20, 21, 22, 23, 24, 25, 26, 27, 28, 29, 30, 31, 32, 117, 118, 119, 120, 121, 122, 123, 124, 125, 126, 127, 128, 129, 130] (by decide +kernel) (by decide +kernel)) (goodIn_sub (fun _ h => List.mem_cons_of_mem _ (List.mem_append_right _ h)) (by decide +kernel))
set_option maxRecDepth 20000 in
theorem gX3_isSame_X2_string : GoodIn wsX3_isSame (wsV RX3 59 RX2 yX2_string wsX2_string) := goodIn_app (goodIn_of _ (by decide +kernel)) ggX3_isSame_X2_string
set_option maxRecDepth 20000 in
theorem ggX3_isSame_X3_tone : GoodIn wsX3_isSame wsX3_tone := goodIn_r _ [37, 2, 5, 111, 112, 113, 114, 115, 116] (by decide +kernel) (by decide +kernel)
set_option maxRecDepth 20000 in
theorem gX3_isSame_X3_tone : GoodIn wsX3_isSame (wsV RX3 32 RX3 yX3_tone wsX3_tone) := goodIn_app (goodIn_of _ (by decide +kernel)) ggX3_isSame_X3_tone
set_option maxRecDepth 20000 in
theorem ggX3_isSame_X3_sounds : GoodIn wsX3_isSame wsX3_sounds := goodIn_r _ [41, 2, 33, 34, 35, 36, 37, 5, 111, 112, 113, 114, 115, 116] (by decide +kernel) (by decide +kernel)
set_option maxRecDepth 20000 in
theorem gX3_isSame_X3_sounds : GoodIn wsX3_isSame (wsV RX3 36 RX3 yX3_sounds wsX3_sounds) := goodIn_app (goodIn_of _ (by decide +kernel)) ggX3_isSame_X3_sounds
set_option maxRecDepth 20000 in
theorem ggX3_isSame_X2_off : GoodIn wsX3_isSame wsX2_off := goodIn_ca (goodIn_r _ [45, 13, 46, 47, 48, 49, 9, 50, 11, 12, 51, 52, 53, 54, 20, 55, 56, 57, 58, 59, 60, 61, 62, 28, 29, 30, 31, 26, 23, 22, 24, 32, 117, 118, 119, 120, 121, 122, 131, 132, 133, 123, 124, 125, 126, 127, 128, 129, 130] (by decide +kernel) (by decide +kernel)) (goodIn_sub (fun _ h => List.mem_cons_of_mem _ (List.mem_append_right _ h)) (by decide +kernel))
set_option maxRecDepth 20000 in
theorem gX3_isSame_X2_off : GoodIn wsX3_isSame (wsV RX3 64 RX2 yX2_off wsX2_off) := goodIn_app (goodIn_of _ (by decide +kernel)) ggX3_isSame_X2_off
set_option maxRecDepth 20000 in
theorem ggX3_isSame_X3_off : GoodIn wsX3_isSame wsX3_off := goodIn_r _ [66, 33, 34, 35, 36, 37, 2, 5, 111, 112, 113, 114, 115, 116] (by decide +kernel) (by decide +kernel)
set_option maxRecDepth 20000 in
theorem gX3_isSame_X3_off : GoodIn wsX3_isSame (wsV RX3 67 RX3 yX3_off wsX3_off) := goodIn_app (goodIn_of _ (by decide +kernel)) ggX3_isSame_X3_off
set_option maxRecDepth 20000 in
theorem ggX3_isSame_X2_sounds : GoodIn wsX3_isSame wsX2_sounds := goodIn_ca (goodIn_r _ [70, 13, 46, 47, 48, 49, 9, 50, 11, 12, 51, 71, 72, 73, 20, 74, 56, 75, 76, 77, 78, 57, 26, 58, 59, 60, 61, 62, 28, 29, 30, 31, 23, 22, 24, 32, 117, 118, 119, 120, 121, 122, 131, 132, 133, 123, 124, 125, 126, 127, 128, 129, 130] (by decide +kernel) (by decide +kernel)) (goodIn_sub (fun _ h => List.mem_cons_of_mem _ (List.mem_append_right _ h)) (by decide +kernel))
set_option maxRecDepth 20000 in
theorem gX3_isSame_X2_sounds : GoodIn wsX3_isSame (wsV RX3 70 RX2 yX2_sounds wsX2_sounds) := goodIn_app (goodIn_of _ (by decide +kernel)) ggX3_isSame_X2_sounds
set_option maxRecDepth 20000 in
theorem ggX3_isSame_X2_count : GoodIn wsX3_isSame wsX2_count := goodIn_ca (goodIn_r _ [82, 11, 12, 83, 84, 85, 9, 86, 13, 87, 51, 88, 89, 90, 91, 92, 93, 94, 20, 95, 26, 96, 97, 98, 99, 46, 71, 72, 73, 74, 56, 75, 76, 77, 78, 57, 58, 59, 60, 61, 62, 28, 29, 30, 31, 23, 22, 24, 32, 100, 101, 102, 117, 118, 119, 120, 121, 122, 123, 124, 125, 126, 127, 128, 129, 130, 131, 132, 133] (by decide +kernel) (by decide +kernel)) (goodIn_sub (fun _ h => List.mem_cons_of_mem _ (List.mem_append_right _ h)) (by decide +kernel))
set_option maxRecDepth 20000 in
theorem gX3_isSame_X2_count : GoodIn wsX3_isSame (wsV RX3 73 RX2 yX2_count wsX2_count) := goodIn_app (goodIn_of _ (by decide +kernel)) ggX3_isSame_X2_count
set_option maxRecDepth 20000 in
theorem ggX3_isSame_X2_mean : GoodIn wsX3_isSame wsX2_mean := goodIn_r _ [106, 13, 92, 93, 94, 20, 95, 26, 107, 108, 109, 110, 28, 29, 30, 31, 23, 22, 24, 32, 117, 118, 119, 120, 121, 122, 123, 124, 125, 126, 127, 128, 129, 130] (by decide +kernel) (by decide +kernel)
set_option maxRecDepth 20000 in
theorem gX3_isSame_X2_mean : GoodIn wsX3_isSame (wsV RX3 76 RX2 yX2_mean wsX2_mean) := goodIn_app (goodIn_of _ (by decide +kernel)) ggX3_isSame_X2_mean
theorem dX3_isSame_0 : decode cX3_isSame 0 = .ok (.bipush 6, 2) := by decide +kernel
theorem dX3_isSame_2 : decode cX3_isSame 2 = .ok (.newarray .int, 2) := by decide +kernel
theorem dX3_isSame_4 : decode cX3_isSame 4 = .ok (.astore_n 2, 1) := by decide +kernel
theorem dX3_isSame_5 : decode cX3_isSame 5 = .ok (.iconst 0, 1) := by decide +kernel
theorem dX3_isSame_6 : decode cX3_isSame 6 = .ok (.istore_n 3, 1) := by decide +kernel
theorem dX3_isSame_7 : decode cX3_isSame 7 = .ok (.iconst 0, 1) := by decide +kernel
theorem dX3_isSame_8 : decode cX3_isSame 8 = .ok (.istore 4, 2) := by decide +kernel
theorem dX3_isSame_10 : decode cX3_isSame 10 = .ok (.iconst 0, 1) := by decide +kernel
theorem dX3_isSame_11 : decode cX3_isSame 11 = .ok (.istore 5, 2) := by decide +kernel
theorem dX3_isSame_13 : decode cX3_isSame 13 = .ok (.iload 5, 2) := by decide +kernel
theorem dX3_isSame_15 : decode cX3_isSame 15 = .ok (.bipush 12, 2) := by decide +kernel
theorem dX3_isSame_17 : decode cX3_isSame 17 = .ok (.if_icmp .ge 103, 3) := by decide +kernel
theorem dX3_isSame_20 : decode cX3_isSame 20 = .ok (.iconst 0, 1) := by decide +kernel
theorem dX3_isSame_21 : decode cX3_isSame 21 = .ok (.istore 6, 2) := by decide +kernel
theorem dX3_isSame_23 : decode cX3_isSame 23 = .ok (.iload 6, 2) := by decide +kernel
theorem dX3_isSame_25 : decode cX3_isSame 25 = .ok (.bipush 6, 2) := by decide +kernel
theorem dX3_isSame_27 : decode cX3_isSame 27 = .ok (.if_icmp .ge 60, 3) := by decide +kernel
theorem dX3_isSame_30 : decode cX3_isSame 30 = .ok (.aload_n 2, 1) := by decide +kernel
theorem dX3_isSame_31 : decode cX3_isSame 31 = .ok (.iload 6, 2) := by decide +kernel
theorem dX3_isSame_33 : decode cX3_isSame 33 = .ok (.dup2, 1) := by decide +kernel
theorem dX3_isSame_34 : decode cX3_isSame 34 = .ok (.iaload, 1) := by decide +kernel
theorem dX3_isSame_35 : decode cX3_isSame 35 = .ok (.aload_n 0, 1) := by decide +kernel
theorem dX3_isSame_36 : decode cX3_isSame 36 = .ok (.getfield 9, 3) := by decide +kernel
theorem dX3_isSame_39 : decode cX3_isSame 39 = .ok (.iload 5, 2) := by decide +kernel
theorem dX3_isSame_41 : decode cX3_isSame 41 = .ok (.aaload, 1) := by decide +kernel
theorem dX3_isSame_42 : decode cX3_isSame 42 = .ok (.iload 6, 2) := by decide +kernel
theorem dX3_isSame_44 : decode cX3_isSame 44 = .ok (.iaload, 1) := by decide +kernel
theorem dX3_isSame_45 : decode cX3_isSame 45 = .ok (.iadd, 1) := by decide +kernel
theorem dX3_isSame_46 : decode cX3_isSame 46 = .ok (.iastore, 1) := by decide +kernel
theorem dX3_isSame_47 : decode cX3_isSame 47 = .ok (.aload_n 1, 1) := by decide +kernel
theorem dX3_isSame_48 : decode cX3_isSame 48 = .ok (.iload 5, 2) := by decide +kernel
theorem dX3_isSame_50 : decode cX3_isSame 50 = .ok (.iload 6, 2) := by decide +kernel
theorem dX3_isSame_52 : decode cX3_isSame 52 = .ok (.iconst 5, 1) := by decide +kernel
theorem dX3_isSame_53 : decode cX3_isSame 53 = .ok (.if_icmp .ge 8, 3) := by decide +kernel
theorem dX3_isSame_56 : decode cX3_isSame 56 = .ok (.iload 6, 2) := by decide +kernel
theorem dX3_isSame_58 : decode cX3_isSame 58 = .ok (.goto 5, 3) := by decide +kernel
theorem dX3_isSame_61 : decode cX3_isSame 61 = .ok (.bipush 6, 2) := by decide +kernel
theorem dX3_isSame_63 : decode cX3_isSame 63 = .ok (.invokevirtual 59, 3) := by decide +kernel
theorem dX3_isSame_66 : decode cX3_isSame 66 = .ok (.aload_n 0, 1) := by decide +kernel
theorem dX3_isSame_67 : decode cX3_isSame 67 = .ok (.getfield 9, 3) := by decide +kernel
theorem dX3_isSame_70 : decode cX3_isSame 70 = .ok (.iload 5, 2) := by decide +kernel
theorem dX3_isSame_72 : decode cX3_isSame 72 = .ok (.aaload, 1) := by decide +kernel
theorem dX3_isSame_73 : decode cX3_isSame 73 = .ok (.iload 6, 2) := by decide +kernel
theorem dX3_isSame_75 : decode cX3_isSame 75 = .ok (.iaload, 1) := by decide +kernel
theorem dX3_isSame_76 : decode cX3_isSame 76 = .ok (.if_icmp .eq 5, 3) := by decide +kernel
theorem dX3_isSame_79 : decode cX3_isSame 79 = .ok (.iconst 0, 1) := by decide +kernel
theorem dX3_isSame_80 : decode cX3_isSame 80 = .ok (.ireturn, 1) := by decide +kernel
theorem dX3_isSame_81 : decode cX3_isSame 81 = .ok (.iinc 6 1, 3) := by decide +kernel
theorem dX3_isSame_84 : decode cX3_isSame 84 = .ok (.goto (-61), 3) := by decide +kernel
theorem dX3_isSame_87 : decode cX3_isSame 87 = .ok (.iload_n 3, 1) := by decide +kernel
theorem dX3_isSame_88 : decode cX3_isSame 88 = .ok (.aload_n 0, 1) := by decide +kernel
theorem dX3_isSame_89 : decode cX3_isSame 89 = .ok (.iload 5, 2) := by decide +kernel
theorem dX3_isSame_91 : decode cX3_isSame 91 = .ok (.invokevirtual 32, 3) := by decide +kernel
theorem dX3_isSame_94 : decode cX3_isSame 94 = .ok (.iadd, 1) := by decide +kernel
theorem dX3_isSame_95 : decode cX3_isSame 95 = .ok (.istore_n 3, 1) := by decide +kernel
theorem dX3_isSame_96 : decode cX3_isSame 96 = .ok (.aload_n 1, 1) := by decide +kernel
theorem dX3_isSame_97 : decode cX3_isSame 97 = .ok (.iload 5, 2) := by decide +kernel
theorem dX3_isSame_99 : decode cX3_isSame 99 = .ok (.iconst 5, 1) := by decide +kernel
theorem dX3_isSame_100 : decode cX3_isSame 100 = .ok (.invokevirtual 59, 3) := by decide +kernel
theorem dX3_isSame_103 : decode cX3_isSame 103 = .ok (.aload_n 0, 1) := by decide +kernel
theorem dX3_isSame_104 : decode cX3_isSame 104 = .ok (.iload 5, 2) := by decide +kernel
theorem dX3_isSame_106 : decode cX3_isSame 106 = .ok (.invokevirtual 32, 3) := by decide +kernel
theorem dX3_isSame_109 : decode cX3_isSame 109 = .ok (.if_icmp .eq 5, 3) := by decide +kernel
theorem dX3_isSame_112 : decode cX3_isSame 112 = .ok (.iconst 0, 1) := by decide +kernel
theorem dX3_isSame_113 : decode cX3_isSame 113 = .ok (.ireturn, 1) := by decide +kernel
theorem dX3_isSame_114 : decode cX3_isSame 114 = .ok (.iinc 5 1, 3) := by decide +kernel
theorem dX3_isSame_117 : decode cX3_isSame 117 = .ok (.goto (-104), 3) := by decide +kernel
theorem dX3_isSame_120 : decode cX3_isSame 120 = .ok (.iconst 0, 1) := by decide +kernel
theorem dX3_isSame_121 : decode cX3_isSame 121 = .ok (.istore 5, 2) := by decide +kernel
theorem dX3_isSame_123 : decode cX3_isSame 123 = .ok (.iload 5, 2) := by decide +kernel
theorem dX3_isSame_125 : decode cX3_isSame 125 = .ok (.aload_n 0, 1) := by decide +kernel
theorem dX3_isSame_126 : decode cX3_isSame 126 = .ok (.getfield 15, 3) := by decide +kernel
theorem dX3_isSame_129 : decode cX3_isSame 129 = .ok (.arraylength, 1) := by decide +kernel
theorem dX3_isSame_130 : decode cX3_isSame 130 = .ok (.if_icmp .ge 75, 3) := by decide +kernel
theorem dX3_isSame_133 : decode cX3_isSame 133 = .ok (.iload 4, 2) := by decide +kernel
theorem dX3_isSame_135 : decode cX3_isSame 135 = .ok (.aload_n 0, 1) := by decide +kernel
theorem dX3_isSame_136 : decode cX3_isSame 136 = .ok (.aload_n 0, 1) := by decide +kernel
theorem dX3_isSame_137 : decode cX3_isSame 137 = .ok (.getfield 15, 3) := by decide +kernel
theorem dX3_isSame_140 : decode cX3_isSame 140 = .ok (.iload 5, 2) := by decide +kernel
theorem dX3_isSame_142 : decode cX3_isSame 142 = .ok (.aaload, 1) := by decide +kernel
theorem dX3_isSame_143 : decode cX3_isSame 143 = .ok (.invokevirtual 36, 3) := by decide +kernel
theorem dX3_isSame_146 : decode cX3_isSame 146 = .ok (.ifCond .eq 7, 3) := by decide +kernel
theorem dX3_isSame_149 : decode cX3_isSame 149 = .ok (.iconst 1, 1) := by decide +kernel
theorem dX3_isSame_150 : decode cX3_isSame 150 = .ok (.goto 4, 3) := by decide +kernel
theorem dX3_isSame_153 : decode cX3_isSame 153 = .ok (.iconst 0, 1) := by decide +kernel
theorem dX3_isSame_154 : decode cX3_isSame 154 = .ok (.iadd, 1) := by decide +kernel
theorem dX3_isSame_155 : decode cX3_isSame 155 = .ok (.istore 4, 2) := by decide +kernel
theorem dX3_isSame_157 : decode cX3_isSame 157 = .ok (.aload_n 1, 1) := by decide +kernel
theorem dX3_isSame_158 : decode cX3_isSame 158 = .ok (.iload 5, 2) := by decide +kernel
theorem dX3_isSame_160 : decode cX3_isSame 160 = .ok (.invokevirtual 64, 3) := by decide +kernel
theorem dX3_isSame_163 : decode cX3_isSame 163 = .ok (.aload_n 0, 1) := by decide +kernel
theorem dX3_isSame_164 : decode cX3_isSame 164 = .ok (.aload_n 0, 1) := by decide +kernel
theorem dX3_isSame_165 : decode cX3_isSame 165 = .ok (.getfield 15, 3) := by decide +kernel
theorem dX3_isSame_168 : decode cX3_isSame 168 = .ok (.iload 5, 2) := by decide +kernel
theorem dX3_isSame_170 : decode cX3_isSame 170 = .ok (.aaload, 1) := by decide +kernel
theorem dX3_isSame_171 : decode cX3_isSame 171 = .ok (.invokevirtual 67, 3) := by decide +kernel
theorem dX3_isSame_174 : decode cX3_isSame 174 = .ok (.if_icmp .ne 23, 3) := by decide +kernel
theorem dX3_isSame_177 : decode cX3_isSame 177 = .ok (.aload_n 1, 1) := by decide +kernel
theorem dX3_isSame_178 : decode cX3_isSame 178 = .ok (.iload 5, 2) := by decide +kernel
theorem dX3_isSame_180 : decode cX3_isSame 180 = .ok (.invokevirtual 70, 3) := by decide +kernel
theorem dX3_isSame_183 : decode cX3_isSame 183 = .ok (.aload_n 0, 1) := by decide +kernel
theorem dX3_isSame_184 : decode cX3_isSame 184 = .ok (.aload_n 0, 1) := by decide +kernel
theorem dX3_isSame_185 : decode cX3_isSame 185 = .ok (.getfield 15, 3) := by decide +kernel
theorem dX3_isSame_188 : decode cX3_isSame 188 = .ok (.iload 5, 2) := by decide +kernel
theorem dX3_isSame_190 : decode cX3_isSame 190 = .ok (.aaload, 1) := by decide +kernel
theorem dX3_isSame_191 : decode cX3_isSame 191 = .ok (.invokevirtual 36, 3) := by decide +kernel
theorem dX3_isSame_194 : decode cX3_isSame 194 = .ok (.if_icmp .eq 5, 3) := by decide +kernel
theorem dX3_isSame_197 : decode cX3_isSame 197 = .ok (.iconst 0, 1) := by decide +kernel
theorem dX3_isSame_198 : decode cX3_isSame 198 = .ok (.ireturn, 1) := by decide +kernel
theorem dX3_isSame_199 : decode cX3_isSame 199 = .ok (.iinc 5 1, 3) := by decide +kernel
theorem dX3_isSame_202 : decode cX3_isSame 202 = .ok (.goto (-79), 3) := by decide +kernel
theorem dX3_isSame_205 : decode cX3_isSame 205 = .ok (.bipush 8, 2) := by decide +kernel
theorem dX3_isSame_207 : decode cX3_isSame 207 = .ok (.newarray .int, 2) := by decide +kernel
theorem dX3_isSame_209 : decode cX3_isSame 209 = .ok (.dup, 1) := by decide +kernel
theorem dX3_isSame_210 : decode cX3_isSame 210 = .ok (.iconst 0, 1) := by decide +kernel
theorem dX3_isSame_211 : decode cX3_isSame 211 = .ok (.aload_n 0, 1) := by decide +kernel
theorem dX3_isSame_212 : decode cX3_isSame 212 = .ok (.getfield 25, 3) := by decide +kernel
theorem dX3_isSame_215 : decode cX3_isSame 215 = .ok (.iastore, 1) := by decide +kernel
theorem dX3_isSame_216 : decode cX3_isSame 216 = .ok (.dup, 1) := by decide +kernel
theorem dX3_isSame_217 : decode cX3_isSame 217 = .ok (.iconst 1, 1) := by decide +kernel
theorem dX3_isSame_218 : decode cX3_isSame 218 = .ok (.aload_n 2, 1) := by decide +kernel
theorem dX3_isSame_219 : decode cX3_isSame 219 = .ok (.iconst 4, 1) := by decide +kernel
theorem dX3_isSame_220 : decode cX3_isSame 220 = .ok (.iaload, 1) := by decide +kernel
theorem dX3_isSame_221 : decode cX3_isSame 221 = .ok (.iastore, 1) := by decide +kernel
theorem dX3_isSame_222 : decode cX3_isSame 222 = .ok (.dup, 1) := by decide +kernel
theorem dX3_isSame_223 : decode cX3_isSame 223 = .ok (.iconst 2, 1) := by decide +kernel
theorem dX3_isSame_224 : decode cX3_isSame 224 = .ok (.aload_n 0, 1) := by decide +kernel
theorem dX3_isSame_225 : decode cX3_isSame 225 = .ok (.getfield 15, 3) := by decide +kernel
theorem dX3_isSame_228 : decode cX3_isSame 228 = .ok (.arraylength, 1) := by decide +kernel
theorem dX3_isSame_229 : decode cX3_isSame 229 = .ok (.iastore, 1) := by decide +kernel
theorem dX3_isSame_230 : decode cX3_isSame 230 = .ok (.dup, 1) := by decide +kernel
theorem dX3_isSame_231 : decode cX3_isSame 231 = .ok (.iconst 3, 1) := by decide +kernel
theorem dX3_isSame_232 : decode cX3_isSame 232 = .ok (.iload 4, 2) := by decide +kernel
theorem dX3_isSame_234 : decode cX3_isSame 234 = .ok (.iastore, 1) := by decide +kernel
theorem dX3_isSame_235 : decode cX3_isSame 235 = .ok (.dup, 1) := by decide +kernel
theorem dX3_isSame_236 : decode cX3_isSame 236 = .ok (.iconst 4, 1) := by decide +kernel
theorem dX3_isSame_237 : decode cX3_isSame 237 = .ok (.aload_n 0, 1) := by decide +kernel
theorem dX3_isSame_238 : decode cX3_isSame 238 = .ok (.getfield 29, 3) := by decide +kernel
theorem dX3_isSame_241 : decode cX3_isSame 241 = .ok (.iastore, 1) := by decide +kernel
theorem dX3_isSame_242 : decode cX3_isSame 242 = .ok (.dup, 1) := by decide +kernel
theorem dX3_isSame_243 : decode cX3_isSame 243 = .ok (.iconst 5, 1) := by decide +kernel
theorem dX3_isSame_244 : decode cX3_isSame 244 = .ok (.aload_n 2, 1) := by decide +kernel
theorem dX3_isSame_245 : decode cX3_isSame 245 = .ok (.iconst 1, 1) := by decide +kernel
theorem dX3_isSame_246 : decode cX3_isSame 246 = .ok (.iaload, 1) := by decide +kernel
theorem dX3_isSame_247 : decode cX3_isSame 247 = .ok (.iastore, 1) := by decide +kernel
theorem dX3_isSame_248 : decode cX3_isSame 248 = .ok (.dup, 1) := by decide +kernel
theorem dX3_isSame_249 : decode cX3_isSame 249 = .ok (.bipush 6, 2) := by decide +kernel
theorem dX3_isSame_251 : decode cX3_isSame 251 = .ok (.aload_n 2, 1) := by decide +kernel
theorem dX3_isSame_252 : decode cX3_isSame 252 = .ok (.iconst 3, 1) := by decide +kernel
theorem dX3_isSame_253 : decode cX3_isSame 253 = .ok (.iaload, 1) := by decide +kernel
theorem dX3_isSame_254 : decode cX3_isSame 254 = .ok (.iastore, 1) := by decide +kernel
theorem dX3_isSame_255 : decode cX3_isSame 255 = .ok (.dup, 1) := by decide +kernel
theorem dX3_isSame_256 : decode cX3_isSame 256 = .ok (.bipush 7, 2) := by decide +kernel
theorem dX3_isSame_258 : decode cX3_isSame 258 = .ok (.aload_n 2, 1) := by decide +kernel
theorem dX3_isSame_259 : decode cX3_isSame 259 = .ok (.iconst 5, 1) := by decide +kernel
theorem dX3_isSame_260 : decode cX3_isSame 260 = .ok (.iaload, 1) := by decide +kernel
theorem dX3_isSame_261 : decode cX3_isSame 261 = .ok (.iastore, 1) := by decide +kernel
theorem dX3_isSame_262 : decode cX3_isSame 262 = .ok (.astore 5, 2) := by decide +kernel
theorem dX3_isSame_264 : decode cX3_isSame 264 = .ok (.iconst 0, 1) := by decide +kernel
theorem dX3_isSame_265 : decode cX3_isSame 265 = .ok (.istore 6, 2) := by decide +kernel
theorem dX3_isSame_267 : decode cX3_isSame 267 = .ok (.iload 6, 2) := by decide +kernel
theorem dX3_isSame_269 : decode cX3_isSame 269 = .ok (.bipush 8, 2) := by decide +kernel
theorem dX3_isSame_271 : decode cX3_isSame 271 = .ok (.if_icmp .ge 25, 3) := by decide +kernel
theorem dX3_isSame_274 : decode cX3_isSame 274 = .ok (.aload_n 1, 1) := by decide +kernel
theorem dX3_isSame_275 : decode cX3_isSame 275 = .ok (.iload 6, 2) := by decide +kernel
theorem dX3_isSame_277 : decode cX3_isSame 277 = .ok (.invokevirtual 73, 3) := by decide +kernel
theorem dX3_isSame_280 : decode cX3_isSame 280 = .ok (.aload 5, 2) := by decide +kernel
theorem dX3_isSame_282 : decode cX3_isSame 282 = .ok (.iload 6, 2) := by decide +kernel
theorem dX3_isSame_284 : decode cX3_isSame 284 = .ok (.iaload, 1) := by decide +kernel
theorem dX3_isSame_285 : decode cX3_isSame 285 = .ok (.if_icmp .eq 5, 3) := by decide +kernel
theorem dX3_isSame_288 : decode cX3_isSame 288 = .ok (.iconst 0, 1) := by decide +kernel
theorem dX3_isSame_289 : decode cX3_isSame 289 = .ok (.ireturn, 1) := by decide +kernel
theorem dX3_isSame_290 : decode cX3_isSame 290 = .ok (.iinc 6 1, 3) := by decide +kernel
theorem dX3_isSame_293 : decode cX3_isSame 293 = .ok (.goto (-26), 3) := by decide +kernel
theorem dX3_isSame_296 : decode cX3_isSame 296 = .ok (.aload_n 1, 1) := by decide +kernel
theorem dX3_isSame_297 : decode cX3_isSame 297 = .ok (.invokevirtual 76, 3) := by decide +kernel
theorem dX3_isSame_300 : decode cX3_isSame 300 = .ok (.aload_n 2, 1) := by decide +kernel
theorem dX3_isSame_301 : decode cX3_isSame 301 = .ok (.iconst 4, 1) := by decide +kernel
theorem dX3_isSame_302 : decode cX3_isSame 302 = .ok (.iaload, 1) := by decide +kernel
theorem dX3_isSame_303 : decode cX3_isSame 303 = .ok (.ifCond .ne 7, 3) := by decide +kernel
theorem dX3_isSame_306 : decode cX3_isSame 306 = .ok (.dconst 0, 1) := by decide +kernel
theorem dX3_isSame_307 : decode cX3_isSame 307 = .ok (.goto 10, 3) := by decide +kernel
theorem dX3_isSame_310 : decode cX3_isSame 310 = .ok (.iload_n 3, 1) := by decide +kernel
theorem dX3_isSame_311 : decode cX3_isSame 311 = .ok (.i2d, 1) := by decide +kernel
theorem dX3_isSame_312 : decode cX3_isSame 312 = .ok (.aload_n 2, 1) := by decide +kernel
theorem dX3_isSame_313 : decode cX3_isSame 313 = .ok (.iconst 4, 1) := by decide +kernel
theorem dX3_isSame_314 : decode cX3_isSame 314 = .ok (.iaload, 1) := by decide +kernel
theorem dX3_isSame_315 : decode cX3_isSame 315 = .ok (.i2d, 1) := by decide +kernel
theorem dX3_isSame_316 : decode cX3_isSame 316 = .ok (.ddiv, 1) := by decide +kernel
theorem dX3_isSame_317 : decode cX3_isSame 317 = .ok (.dcmp .l, 1) := by decide +kernel
theorem dX3_isSame_318 : decode cX3_isSame 318 = .ok (.ifCond .ne 7, 3) := by decide +kernel
theorem dX3_isSame_321 : decode cX3_isSame 321 = .ok (.iconst 1, 1) := by decide +kernel
theorem dX3_isSame_322 : decode cX3_isSame 322 = .ok (.goto 4, 3) := by decide +kernel
theorem dX3_isSame_325 : decode cX3_isSame 325 = .ok (.iconst 0, 1) := by decide +kernel
theorem dX3_isSame_326 : decode cX3_isSame 326 = .ok (.ireturn, 1) := by decide +kernel
theorem dJ9_floorMod_7cf53_0 : decode cJ9_floorMod_7cf53 0 = .ok (.iload_n 0, 1) := by decide +kernel
theorem dJ9_floorMod_7cf53_1 : decode cJ9_floorMod_7cf53 1 = .ok (.iload_n 1, 1) := by decide +kernel
theorem dJ9_floorMod_7cf53_2 : decode cJ9_floorMod_7cf53 2 = .ok (.irem, 1) := by decide +kernel
theorem dJ9_floorMod_7cf53_3 : decode cJ9_floorMod_7cf53 3 = .ok (.istore_n 2, 1) := by decide +kernel
theorem dJ9_floorMod_7cf53_4 : decode cJ9_floorMod_7cf53 4 = .ok (.iload_n 0, 1) := by decide +kernel
theorem dJ9_floorMod_7cf53_5 : decode cJ9_floorMod_7cf53 5 = .ok (.iload_n 1, 1) := by decide +kernel
theorem dJ9_floorMod_7cf53_6 : decode cJ9_floorMod_7cf53 6 = .ok (.ixor, 1) := by decide +kernel
theorem dJ9_floorMod_7cf53_7 : decode cJ9_floorMod_7cf53 7 = .ok (.ifCond .ge 11, 3) := by decide +kernel
theorem dJ9_floorMod_7cf53_10 : decode cJ9_floorMod_7cf53 10 = .ok (.iload_n 2, 1) := by decide +kernel
theorem dJ9_floorMod_7cf53_11 : decode cJ9_floorMod_7cf53 11 = .ok (.ifCond .eq 7, 3) := by decide +kernel
theorem dJ9_floorMod_7cf53_14 : decode cJ9_floorMod_7cf53 14 = .ok (.iload_n 2, 1) := by decide +kernel
theorem dJ9_floorMod_7cf53_15 : decode cJ9_floorMod_7cf53 15 = .ok (.iload_n 1, 1) := by decide +kernel
theorem dJ9_floorMod_7cf53_16 : decode cJ9_floorMod_7cf53 16 = .ok (.iadd, 1) := by decide +kernel
theorem dJ9_floorMod_7cf53_17 : decode cJ9_floorMod_7cf53 17 = .ok (.ireturn, 1) := by decide +kernel
theorem dJ9_floorMod_7cf53_18 : decode cJ9_floorMod_7cf53 18 = .ok (.iload_n 2, 1) := by decide +kernel
theorem dJ9_floorMod_7cf53_19 : decode cJ9_floorMod_7cf53 19 = .ok (.ireturn, 1) := by decide +kernel
theorem dJ9_abs_0f7a4_0 : decode cJ9_abs_0f7a4 0 = .ok (.iload_n 0, 1) := by decide +kernel
theorem dJ9_abs_0f7a4_1 : decode cJ9_abs_0f7a4 1 = .ok (.ifCond .ge 8, 3) := by decide +kernel
theorem dJ9_abs_0f7a4_4 : decode cJ9_abs_0f7a4 4 = .ok (.iload_n 0, 1) := by decide +kernel
theorem dJ9_abs_0f7a4_5 : decode cJ9_abs_0f7a4 5 = .ok (.ineg, 1) := by decide +kernel
theorem dJ9_abs_0f7a4_6 : decode cJ9_abs_0f7a4 6 = .ok (.goto 4, 3) := by decide +kernel
theorem dJ9_abs_0f7a4_9 : decode cJ9_abs_0f7a4 9 = .ok (.iload_n 0, 1) := by decide +kernel
theorem dJ9_abs_0f7a4_10 : decode cJ9_abs_0f7a4 10 = .ok (.ireturn, 1) := by decide +kernel
theorem dJ9_max_7cf53_0 : decode cJ9_max_7cf53 0 = .ok (.iload_n 0, 1) := by decide +kernel
theorem dJ9_max_7cf53_1 : decode cJ9_max_7cf53 1 = .ok (.iload_n 1, 1) := by decide +kernel
theorem dJ9_max_7cf53_2 : decode cJ9_max_7cf53 2 = .ok (.if_icmp .lt 7, 3) := by decide +kernel
theorem dJ9_max_7cf53_5 : decode cJ9_max_7cf53 5 = .ok (.iload_n 0, 1) := by decide +kernel
theorem dJ9_max_7cf53_6 : decode cJ9_max_7cf53 6 = .ok (.goto 4, 3) := by decide +kernel
theorem dJ9_max_7cf53_9 : decode cJ9_max_7cf53 9 = .ok (.iload_n 1, 1) := by decide +kernel
theorem dJ9_max_7cf53_10 : decode cJ9_max_7cf53 10 = .ok (.ireturn, 1) := by decide +kernel
theorem dJ9_min_7cf53_0 : decode cJ9_min_7cf53 0 = .ok (.iload_n 0, 1) := by decide +kernel
theorem dJ9_min_7cf53_1 : decode cJ9_min_7cf53 1 = .ok (.iload_n 1, 1) := by decide +kernel
theorem dJ9_min_7cf53_2 : decode cJ9_min_7cf53 2 = .ok (.if_icmp .gt 7, 3) := by decide +kernel
theorem dJ9_min_7cf53_5 : decode cJ9_min_7cf53 5 = .ok (.iload_n 0, 1) := by decide +kernel
theorem dJ9_min_7cf53_6 : decode cJ9_min_7cf53 6 = .ok (.goto 4, 3) := by decide +kernel
theorem dJ9_min_7cf53_9 : decode cJ9_min_7cf53 9 = .ok (.iload_n 1, 1) := by decide +kernel
theorem dJ9_min_7cf53_10 : decode cJ9_min_7cf53 10 = .ok (.ireturn, 1) := by decide +kernel
