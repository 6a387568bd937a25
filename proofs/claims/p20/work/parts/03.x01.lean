theorem dX0_init_0 : decode cX0_init 0 = .ok (.aload_n 0, 1) := by decide +kernel
theorem dX0_init_1 : decode cX0_init 1 = .ok (.invokespecial 3, 3) := by decide +kernel
theorem dX0_init_4 : decode cX0_init 4 = .ok (.aload_n 0, 1) := by decide +kernel
theorem dX0_init_5 : decode cX0_init 5 = .ok (.iconst 4, 1) := by decide +kernel
theorem dX0_init_6 : decode cX0_init 6 = .ok (.newarray .int, 2) := by decide +kernel
theorem dX0_init_8 : decode cX0_init 8 = .ok (.putfield 9, 3) := by decide +kernel
theorem dX0_init_11 : decode cX0_init 11 = .ok (.aload_n 0, 1) := by decide +kernel
theorem dX0_init_12 : decode cX0_init 12 = .ok (.iconst 0, 1) := by decide +kernel
theorem dX0_init_13 : decode cX0_init 13 = .ok (.putfield 15, 3) := by decide +kernel
theorem dX0_init_16 : decode cX0_init 16 = .ok (.aload_n 0, 1) := by decide +kernel
theorem dX0_init_17 : decode cX0_init 17 = .ok (.iconst 0, 1) := by decide +kernel
theorem dX0_init_18 : decode cX0_init 18 = .ok (.putfield 19, 3) := by decide +kernel
theorem dX0_init_21 : decode cX0_init 21 = .ok (.return_, 1) := by decide +kernel
theorem dX0_place_0 : decode cX0_place 0 = .ok (.aload_n 0, 1) := by decide +kernel
theorem dX0_place_1 : decode cX0_place 1 = .ok (.iload_n 1, 1) := by decide +kernel
theorem dX0_place_2 : decode cX0_place 2 = .ok (.putfield 15, 3) := by decide +kernel
theorem dX0_place_5 : decode cX0_place 5 = .ok (.aload_n 0, 1) := by decide +kernel
theorem dX0_place_6 : decode cX0_place 6 = .ok (.iload_n 2, 1) := by decide +kernel
theorem dX0_place_7 : decode cX0_place 7 = .ok (.putfield 19, 3) := by decide +kernel
theorem dX0_place_10 : decode cX0_place 10 = .ok (.return_, 1) := by decide +kernel
theorem dX0_tune_0 : decode cX0_tune 0 = .ok (.aload_n 0, 1) := by decide +kernel
theorem dX0_tune_1 : decode cX0_tune 1 = .ok (.getfield 9, 3) := by decide +kernel
theorem dX0_tune_4 : decode cX0_tune 4 = .ok (.iconst 0, 1) := by decide +kernel
theorem dX0_tune_5 : decode cX0_tune 5 = .ok (.iload_n 1, 1) := by decide +kernel
theorem dX0_tune_6 : decode cX0_tune 6 = .ok (.iastore, 1) := by decide +kernel
theorem dX0_tune_7 : decode cX0_tune 7 = .ok (.aload_n 0, 1) := by decide +kernel
theorem dX0_tune_8 : decode cX0_tune 8 = .ok (.getfield 9, 3) := by decide +kernel
theorem dX0_tune_11 : decode cX0_tune 11 = .ok (.iconst 1, 1) := by decide +kernel
theorem dX0_tune_12 : decode cX0_tune 12 = .ok (.iload_n 2, 1) := by decide +kernel
theorem dX0_tune_13 : decode cX0_tune 13 = .ok (.iastore, 1) := by decide +kernel
theorem dX0_tune_14 : decode cX0_tune 14 = .ok (.aload_n 0, 1) := by decide +kernel
theorem dX0_tune_15 : decode cX0_tune 15 = .ok (.getfield 9, 3) := by decide +kernel
theorem dX0_tune_18 : decode cX0_tune 18 = .ok (.iconst 2, 1) := by decide +kernel
theorem dX0_tune_19 : decode cX0_tune 19 = .ok (.iload_n 3, 1) := by decide +kernel
theorem dX0_tune_20 : decode cX0_tune 20 = .ok (.iastore, 1) := by decide +kernel
theorem dX0_tune_21 : decode cX0_tune 21 = .ok (.aload_n 0, 1) := by decide +kernel
theorem dX0_tune_22 : decode cX0_tune 22 = .ok (.getfield 9, 3) := by decide +kernel
theorem dX0_tune_25 : decode cX0_tune 25 = .ok (.iconst 3, 1) := by decide +kernel
theorem dX0_tune_26 : decode cX0_tune 26 = .ok (.iload 4, 2) := by decide +kernel
theorem dX0_tune_28 : decode cX0_tune 28 = .ok (.iastore, 1) := by decide +kernel
theorem dX0_tune_29 : decode cX0_tune 29 = .ok (.return_, 1) := by decide +kernel
theorem dX1_init_0 : decode cX1_init 0 = .ok (.aload_n 0, 1) := by decide +kernel
theorem dX1_init_1 : decode cX1_init 1 = .ok (.invokespecial 3, 3) := by decide +kernel
theorem dX1_init_4 : decode cX1_init 4 = .ok (.aload_n 0, 1) := by decide +kernel
theorem dX1_init_5 : decode cX1_init 5 = .ok (.bipush 12, 2) := by decide +kernel
theorem dX1_init_7 : decode cX1_init 7 = .ok (.newarray .int, 2) := by decide +kernel
theorem dX1_init_9 : decode cX1_init 9 = .ok (.putfield 9, 3) := by decide +kernel
theorem dX1_init_12 : decode cX1_init 12 = .ok (.aload_n 0, 1) := by decide +kernel
theorem dX1_init_13 : decode cX1_init 13 = .ok (.bipush 12, 2) := by decide +kernel
theorem dX1_init_15 : decode cX1_init 15 = .ok (.newarray .int, 2) := by decide +kernel
theorem dX1_init_17 : decode cX1_init 17 = .ok (.putfield 15, 3) := by decide +kernel
theorem dX1_init_20 : decode cX1_init 20 = .ok (.aload_n 0, 1) := by decide +kernel
theorem dX1_init_21 : decode cX1_init 21 = .ok (.bipush 12, 2) := by decide +kernel
theorem dX1_init_23 : decode cX1_init 23 = .ok (.newarray .int, 2) := by decide +kernel
theorem dX1_init_25 : decode cX1_init 25 = .ok (.putfield 18, 3) := by decide +kernel
theorem dX1_init_28 : decode cX1_init 28 = .ok (.aload_n 0, 1) := by decide +kernel
theorem dX1_init_29 : decode cX1_init 29 = .ok (.bipush 12, 2) := by decide +kernel
theorem dX1_init_31 : decode cX1_init 31 = .ok (.newarray .int, 2) := by decide +kernel
theorem dX1_init_33 : decode cX1_init 33 = .ok (.putfield 21, 3) := by decide +kernel
theorem dX1_init_36 : decode cX1_init 36 = .ok (.aload_n 0, 1) := by decide +kernel
theorem dX1_init_37 : decode cX1_init 37 = .ok (.bipush 12, 2) := by decide +kernel
theorem dX1_init_39 : decode cX1_init 39 = .ok (.newarray .int, 2) := by decide +kernel
theorem dX1_init_41 : decode cX1_init 41 = .ok (.putfield 24, 3) := by decide +kernel
theorem dX1_init_44 : decode cX1_init 44 = .ok (.aload_n 0, 1) := by decide +kernel
theorem dX1_init_45 : decode cX1_init 45 = .ok (.bipush 12, 2) := by decide +kernel
theorem dX1_init_47 : decode cX1_init 47 = .ok (.newarray .boolean, 2) := by decide +kernel
theorem dX1_init_49 : decode cX1_init 49 = .ok (.putfield 27, 3) := by decide +kernel
theorem dX1_init_52 : decode cX1_init 52 = .ok (.iconst 0, 1) := by decide +kernel
theorem dX1_init_53 : decode cX1_init 53 = .ok (.istore_n 1, 1) := by decide +kernel
theorem dX1_init_54 : decode cX1_init 54 = .ok (.iload_n 1, 1) := by decide +kernel
theorem dX1_init_55 : decode cX1_init 55 = .ok (.bipush 12, 2) := by decide +kernel
theorem dX1_init_57 : decode cX1_init 57 = .ok (.if_icmp .ge 30, 3) := by decide +kernel
theorem dX1_init_60 : decode cX1_init 60 = .ok (.aload_n 0, 1) := by decide +kernel
theorem dX1_init_61 : decode cX1_init 61 = .ok (.getfield 9, 3) := by decide +kernel
theorem dX1_init_64 : decode cX1_init 64 = .ok (.iload_n 1, 1) := by decide +kernel
theorem dX1_init_65 : decode cX1_init 65 = .ok (.sipush 300, 3) := by decide +kernel
theorem dX1_init_68 : decode cX1_init 68 = .ok (.bipush 20, 2) := by decide +kernel
theorem dX1_init_70 : decode cX1_init 70 = .ok (.iload_n 1, 1) := by decide +kernel
theorem dX1_init_71 : decode cX1_init 71 = .ok (.imul, 1) := by decide +kernel
theorem dX1_init_72 : decode cX1_init 72 = .ok (.iadd, 1) := by decide +kernel
theorem dX1_init_73 : decode cX1_init 73 = .ok (.iastore, 1) := by decide +kernel
theorem dX1_init_74 : decode cX1_init 74 = .ok (.aload_n 0, 1) := by decide +kernel
theorem dX1_init_75 : decode cX1_init 75 = .ok (.getfield 27, 3) := by decide +kernel
theorem dX1_init_78 : decode cX1_init 78 = .ok (.iload_n 1, 1) := by decide +kernel
theorem dX1_init_79 : decode cX1_init 79 = .ok (.iconst 1, 1) := by decide +kernel
theorem dX1_init_80 : decode cX1_init 80 = .ok (.bastore, 1) := by decide +kernel
theorem dX1_init_81 : decode cX1_init 81 = .ok (.iinc 1 1, 3) := by decide +kernel
theorem dX1_init_84 : decode cX1_init 84 = .ok (.goto (-30), 3) := by decide +kernel
theorem dX1_init_87 : decode cX1_init 87 = .ok (.aload_n 0, 1) := by decide +kernel
theorem dX1_init_88 : decode cX1_init 88 = .ok (.iconst 0, 1) := by decide +kernel
theorem dX1_init_89 : decode cX1_init 89 = .ok (.putfield 31, 3) := by decide +kernel
theorem dX1_init_92 : decode cX1_init 92 = .ok (.aload_n 0, 1) := by decide +kernel
theorem dX1_init_93 : decode cX1_init 93 = .ok (.iconst 0, 1) := by decide +kernel
theorem dX1_init_94 : decode cX1_init 94 = .ok (.putfield 35, 3) := by decide +kernel
theorem dX1_init_97 : decode cX1_init 97 = .ok (.return_, 1) := by decide +kernel
theorem dX1_copy_0 : decode cX1_copy 0 = .ok (.iconst 0, 1) := by decide +kernel
theorem dX1_copy_1 : decode cX1_copy 1 = .ok (.istore_n 2, 1) := by decide +kernel
theorem dX1_copy_2 : decode cX1_copy 2 = .ok (.iload_n 2, 1) := by decide +kernel
theorem dX1_copy_3 : decode cX1_copy 3 = .ok (.bipush 12, 2) := by decide +kernel
theorem dX1_copy_5 : decode cX1_copy 5 = .ok (.if_icmp .ge 81, 3) := by decide +kernel
theorem dX1_copy_8 : decode cX1_copy 8 = .ok (.aload_n 0, 1) := by decide +kernel
theorem dX1_copy_9 : decode cX1_copy 9 = .ok (.getfield 9, 3) := by decide +kernel
theorem dX1_copy_12 : decode cX1_copy 12 = .ok (.iload_n 2, 1) := by decide +kernel
theorem dX1_copy_13 : decode cX1_copy 13 = .ok (.aload_n 1, 1) := by decide +kernel
theorem dX1_copy_14 : decode cX1_copy 14 = .ok (.getfield 9, 3) := by decide +kernel
theorem dX1_copy_17 : decode cX1_copy 17 = .ok (.iload_n 2, 1) := by decide +kernel
theorem dX1_copy_18 : decode cX1_copy 18 = .ok (.iaload, 1) := by decide +kernel
theorem dX1_copy_19 : decode cX1_copy 19 = .ok (.iastore, 1) := by decide +kernel
theorem dX1_copy_20 : decode cX1_copy 20 = .ok (.aload_n 0, 1) := by decide +kernel
theorem dX1_copy_21 : decode cX1_copy 21 = .ok (.getfield 15, 3) := by decide +kernel
theorem dX1_copy_24 : decode cX1_copy 24 = .ok (.iload_n 2, 1) := by decide +kernel
theorem dX1_copy_25 : decode cX1_copy 25 = .ok (.aload_n 1, 1) := by decide +kernel
theorem dX1_copy_26 : decode cX1_copy 26 = .ok (.getfield 15, 3) := by decide +kernel
theorem dX1_copy_29 : decode cX1_copy 29 = .ok (.iload_n 2, 1) := by decide +kernel
theorem dX1_copy_30 : decode cX1_copy 30 = .ok (.iaload, 1) := by decide +kernel
theorem dX1_copy_31 : decode cX1_copy 31 = .ok (.iastore, 1) := by decide +kernel
theorem dX1_copy_32 : decode cX1_copy 32 = .ok (.aload_n 0, 1) := by decide +kernel
theorem dX1_copy_33 : decode cX1_copy 33 = .ok (.getfield 18, 3) := by decide +kernel
theorem dX1_copy_36 : decode cX1_copy 36 = .ok (.iload_n 2, 1) := by decide +kernel
theorem dX1_copy_37 : decode cX1_copy 37 = .ok (.aload_n 1, 1) := by decide +kernel
theorem dX1_copy_38 : decode cX1_copy 38 = .ok (.getfield 18, 3) := by decide +kernel
theorem dX1_copy_41 : decode cX1_copy 41 = .ok (.iload_n 2, 1) := by decide +kernel
theorem dX1_copy_42 : decode cX1_copy 42 = .ok (.iaload, 1) := by decide +kernel
theorem dX1_copy_43 : decode cX1_copy 43 = .ok (.iastore, 1) := by decide +kernel
theorem dX1_copy_44 : decode cX1_copy 44 = .ok (.aload_n 0, 1) := by decide +kernel
theorem dX1_copy_45 : decode cX1_copy 45 = .ok (.getfield 21, 3) := by decide +kernel
theorem dX1_copy_48 : decode cX1_copy 48 = .ok (.iload_n 2, 1) := by decide +kernel
theorem dX1_copy_49 : decode cX1_copy 49 = .ok (.aload_n 1, 1) := by decide +kernel
theorem dX1_copy_50 : decode cX1_copy 50 = .ok (.getfield 21, 3) := by decide +kernel
theorem dX1_copy_53 : decode cX1_copy 53 = .ok (.iload_n 2, 1) := by decide +kernel
theorem dX1_copy_54 : decode cX1_copy 54 = .ok (.iaload, 1) := by decide +kernel
theorem dX1_copy_55 : decode cX1_copy 55 = .ok (.iastore, 1) := by decide +kernel
theorem dX1_copy_56 : decode cX1_copy 56 = .ok (.aload_n 0, 1) := by decide +kernel
theorem dX1_copy_57 : decode cX1_copy 57 = .ok (.getfield 24, 3) := by decide +kernel
theorem dX1_copy_60 : decode cX1_copy 60 = .ok (.iload_n 2, 1) := by decide +kernel
theorem dX1_copy_61 : decode cX1_copy 61 = .ok (.aload_n 1, 1) := by decide +kernel
theorem dX1_copy_62 : decode cX1_copy 62 = .ok (.getfield 24, 3) := by decide +kernel
theorem dX1_copy_65 : decode cX1_copy 65 = .ok (.iload_n 2, 1) := by decide +kernel
theorem dX1_copy_66 : decode cX1_copy 66 = .ok (.iaload, 1) := by decide +kernel
theorem dX1_copy_67 : decode cX1_copy 67 = .ok (.iastore, 1) := by decide +kernel
theorem dX1_copy_68 : decode cX1_copy 68 = .ok (.aload_n 0, 1) := by decide +kernel
theorem dX1_copy_69 : decode cX1_copy 69 = .ok (.getfield 27, 3) := by decide +kernel
theorem dX1_copy_72 : decode cX1_copy 72 = .ok (.iload_n 2, 1) := by decide +kernel
theorem dX1_copy_73 : decode cX1_copy 73 = .ok (.aload_n 1, 1) := by decide +kernel
theorem dX1_copy_74 : decode cX1_copy 74 = .ok (.getfield 27, 3) := by decide +kernel
theorem dX1_copy_77 : decode cX1_copy 77 = .ok (.iload_n 2, 1) := by decide +kernel
theorem dX1_copy_78 : decode cX1_copy 78 = .ok (.baload, 1) := by decide +kernel
theorem dX1_copy_79 : decode cX1_copy 79 = .ok (.bastore, 1) := by decide +kernel
theorem dX1_copy_80 : decode cX1_copy 80 = .ok (.iinc 2 1, 3) := by decide +kernel
theorem dX1_copy_83 : decode cX1_copy 83 = .ok (.goto (-81), 3) := by decide +kernel
theorem dX1_copy_86 : decode cX1_copy 86 = .ok (.aload_n 0, 1) := by decide +kernel
theorem dX1_copy_87 : decode cX1_copy 87 = .ok (.aload_n 1, 1) := by decide +kernel
theorem dX1_copy_88 : decode cX1_copy 88 = .ok (.getfield 31, 3) := by decide +kernel
theorem dX1_copy_91 : decode cX1_copy 91 = .ok (.putfield 31, 3) := by decide +kernel
theorem dX1_copy_94 : decode cX1_copy 94 = .ok (.aload_n 0, 1) := by decide +kernel
theorem dX1_copy_95 : decode cX1_copy 95 = .ok (.aload_n 1, 1) := by decide +kernel
theorem dX1_copy_96 : decode cX1_copy 96 = .ok (.getfield 35, 3) := by decide +kernel
theorem dX1_copy_99 : decode cX1_copy 99 = .ok (.putfield 35, 3) := by decide +kernel
theorem dX1_copy_102 : decode cX1_copy 102 = .ok (.return_, 1) := by decide +kernel
theorem dX1_renew_0 : decode cX1_renew 0 = .ok (.aload_n 0, 1) := by decide +kernel
theorem dX1_renew_1 : decode cX1_renew 1 = .ok (.getfield 9, 3) := by decide +kernel
theorem dX1_renew_4 : decode cX1_renew 4 = .ok (.iload_n 1, 1) := by decide +kernel
theorem dX1_renew_5 : decode cX1_renew 5 = .ok (.iload_n 2, 1) := by decide +kernel
theorem dX1_renew_6 : decode cX1_renew 6 = .ok (.iastore, 1) := by decide +kernel
theorem dX1_renew_7 : decode cX1_renew 7 = .ok (.aload_n 0, 1) := by decide +kernel
theorem dX1_renew_8 : decode cX1_renew 8 = .ok (.getfield 18, 3) := by decide +kernel
theorem dX1_renew_11 : decode cX1_renew 11 = .ok (.iload_n 1, 1) := by decide +kernel
theorem dX1_renew_12 : decode cX1_renew 12 = .ok (.iconst 0, 1) := by decide +kernel
theorem dX1_renew_13 : decode cX1_renew 13 = .ok (.iastore, 1) := by decide +kernel
theorem dX1_renew_14 : decode cX1_renew 14 = .ok (.aload_n 0, 1) := by decide +kernel
theorem dX1_renew_15 : decode cX1_renew 15 = .ok (.getfield 21, 3) := by decide +kernel
theorem dX1_renew_18 : decode cX1_renew 18 = .ok (.iload_n 1, 1) := by decide +kernel
theorem dX1_renew_19 : decode cX1_renew 19 = .ok (.iconst 0, 1) := by decide +kernel
theorem dX1_renew_20 : decode cX1_renew 20 = .ok (.iastore, 1) := by decide +kernel
theorem dX1_renew_21 : decode cX1_renew 21 = .ok (.aload_n 0, 1) := by decide +kernel
theorem dX1_renew_22 : decode cX1_renew 22 = .ok (.getfield 27, 3) := by decide +kernel
theorem dX1_renew_25 : decode cX1_renew 25 = .ok (.iload_n 1, 1) := by decide +kernel
theorem dX1_renew_26 : decode cX1_renew 26 = .ok (.iconst 1, 1) := by decide +kernel
theorem dX1_renew_27 : decode cX1_renew 27 = .ok (.bastore, 1) := by decide +kernel
theorem dX1_renew_28 : decode cX1_renew 28 = .ok (.return_, 1) := by decide +kernel
theorem dX1_takesPush_0 : decode cX1_takesPush 0 = .ok (.aload_n 0, 1) := by decide +kernel
theorem dX1_takesPush_1 : decode cX1_takesPush 1 = .ok (.getfield 15, 3) := by decide +kernel
theorem dX1_takesPush_4 : decode cX1_takesPush 4 = .ok (.iload_n 1, 1) := by decide +kernel
theorem dX1_takesPush_5 : decode cX1_takesPush 5 = .ok (.iaload, 1) := by decide +kernel
theorem dX1_takesPush_6 : decode cX1_takesPush 6 = .ok (.iload_n 2, 1) := by decide +kernel
theorem dX1_takesPush_7 : decode cX1_takesPush 7 = .ok (.iadd, 1) := by decide +kernel
theorem dX1_takesPush_8 : decode cX1_takesPush 8 = .ok (.istore_n 3, 1) := by decide +kernel
theorem dX1_takesPush_9 : decode cX1_takesPush 9 = .ok (.iload_n 3, 1) := by decide +kernel
theorem dX1_takesPush_10 : decode cX1_takesPush 10 = .ok (.ifCond .lt 13, 3) := by decide +kernel
theorem dX1_takesPush_13 : decode cX1_takesPush 13 = .ok (.iload_n 3, 1) := by decide +kernel
theorem dX1_takesPush_14 : decode cX1_takesPush 14 = .ok (.bipush 20, 2) := by decide +kernel
theorem dX1_takesPush_16 : decode cX1_takesPush 16 = .ok (.if_icmp .gt 7, 3) := by decide +kernel
theorem dX1_takesPush_19 : decode cX1_takesPush 19 = .ok (.iconst 1, 1) := by decide +kernel
theorem dX1_takesPush_20 : decode cX1_takesPush 20 = .ok (.goto 4, 3) := by decide +kernel
theorem dX1_takesPush_23 : decode cX1_takesPush 23 = .ok (.iconst 0, 1) := by decide +kernel
theorem dX1_takesPush_24 : decode cX1_takesPush 24 = .ok (.ireturn, 1) := by decide +kernel
theorem dX1_toneOf_0 : decode cX1_toneOf 0 = .ok (.aload_n 0, 1) := by decide +kernel
theorem dX1_toneOf_1 : decode cX1_toneOf 1 = .ok (.getfield 27, 3) := by decide +kernel
theorem dX1_toneOf_4 : decode cX1_toneOf 4 = .ok (.iload_n 1, 1) := by decide +kernel
theorem dX1_toneOf_5 : decode cX1_toneOf 5 = .ok (.baload, 1) := by decide +kernel
theorem dX1_toneOf_6 : decode cX1_toneOf 6 = .ok (.ifCond .ne 5, 3) := by decide +kernel
theorem dX1_toneOf_9 : decode cX1_toneOf 9 = .ok (.iconst 0, 1) := by decide +kernel
theorem dX1_toneOf_10 : decode cX1_toneOf 10 = .ok (.ireturn, 1) := by decide +kernel
theorem dX1_toneOf_11 : decode cX1_toneOf 11 = .ok (.iconst 0, 1) := by decide +kernel
theorem dX1_toneOf_12 : decode cX1_toneOf 12 = .ok (.istore_n 2, 1) := by decide +kernel
theorem dX1_toneOf_13 : decode cX1_toneOf 13 = .ok (.iload_n 1, 1) := by decide +kernel
theorem dX1_toneOf_14 : decode cX1_toneOf 14 = .ok (.ifCond .le 14, 3) := by decide +kernel
theorem dX1_toneOf_17 : decode cX1_toneOf 17 = .ok (.iload_n 2, 1) := by decide +kernel
theorem dX1_toneOf_18 : decode cX1_toneOf 18 = .ok (.aload_n 0, 1) := by decide +kernel
theorem dX1_toneOf_19 : decode cX1_toneOf 19 = .ok (.getfield 15, 3) := by decide +kernel
theorem dX1_toneOf_22 : decode cX1_toneOf 22 = .ok (.iload_n 1, 1) := by decide +kernel
theorem dX1_toneOf_23 : decode cX1_toneOf 23 = .ok (.iconst 1, 1) := by decide +kernel
theorem dX1_toneOf_24 : decode cX1_toneOf 24 = .ok (.isub, 1) := by decide +kernel
theorem dX1_toneOf_25 : decode cX1_toneOf 25 = .ok (.iaload, 1) := by decide +kernel
theorem dX1_toneOf_26 : decode cX1_toneOf 26 = .ok (.iadd, 1) := by decide +kernel
theorem dX1_toneOf_27 : decode cX1_toneOf 27 = .ok (.istore_n 2, 1) := by decide +kernel
theorem dX1_toneOf_28 : decode cX1_toneOf 28 = .ok (.iload_n 1, 1) := by decide +kernel
theorem dX1_toneOf_29 : decode cX1_toneOf 29 = .ok (.bipush 11, 2) := by decide +kernel
theorem dX1_toneOf_31 : decode cX1_toneOf 31 = .ok (.if_icmp .ge 14, 3) := by decide +kernel
theorem dX1_toneOf_34 : decode cX1_toneOf 34 = .ok (.iload_n 2, 1) := by decide +kernel
theorem dX1_toneOf_35 : decode cX1_toneOf 35 = .ok (.aload_n 0, 1) := by decide +kernel
theorem dX1_toneOf_36 : decode cX1_toneOf 36 = .ok (.getfield 15, 3) := by decide +kernel
theorem dX1_toneOf_39 : decode cX1_toneOf 39 = .ok (.iload_n 1, 1) := by decide +kernel
theorem dX1_toneOf_40 : decode cX1_toneOf 40 = .ok (.iconst 1, 1) := by decide +kernel
theorem dX1_toneOf_41 : decode cX1_toneOf 41 = .ok (.iadd, 1) := by decide +kernel
theorem dX1_toneOf_42 : decode cX1_toneOf 42 = .ok (.iaload, 1) := by decide +kernel
theorem dX1_toneOf_43 : decode cX1_toneOf 43 = .ok (.iadd, 1) := by decide +kernel
theorem dX1_toneOf_44 : decode cX1_toneOf 44 = .ok (.istore_n 2, 1) := by decide +kernel
theorem dX1_toneOf_45 : decode cX1_toneOf 45 = .ok (.aload_n 0, 1) := by decide +kernel
theorem dX1_toneOf_46 : decode cX1_toneOf 46 = .ok (.getfield 9, 3) := by decide +kernel
theorem dX1_toneOf_49 : decode cX1_toneOf 49 = .ok (.iload_n 1, 1) := by decide +kernel
theorem dX1_toneOf_50 : decode cX1_toneOf 50 = .ok (.iaload, 1) := by decide +kernel
theorem dX1_toneOf_51 : decode cX1_toneOf 51 = .ok (.bipush 10, 2) := by decide +kernel
theorem dX1_toneOf_53 : decode cX1_toneOf 53 = .ok (.aload_n 0, 1) := by decide +kernel
theorem dX1_toneOf_54 : decode cX1_toneOf 54 = .ok (.getfield 15, 3) := by decide +kernel
theorem dX1_toneOf_57 : decode cX1_toneOf 57 = .ok (.iload_n 1, 1) := by decide +kernel
theorem dX1_toneOf_58 : decode cX1_toneOf 58 = .ok (.iaload, 1) := by decide +kernel
theorem dX1_toneOf_59 : decode cX1_toneOf 59 = .ok (.imul, 1) := by decide +kernel
theorem dX1_toneOf_60 : decode cX1_toneOf 60 = .ok (.iadd, 1) := by decide +kernel
theorem dX1_toneOf_61 : decode cX1_toneOf 61 = .ok (.iconst 3, 1) := by decide +kernel
theorem dX1_toneOf_62 : decode cX1_toneOf 62 = .ok (.iload_n 2, 1) := by decide +kernel
theorem dX1_toneOf_63 : decode cX1_toneOf 63 = .ok (.imul, 1) := by decide +kernel
theorem dX1_toneOf_64 : decode cX1_toneOf 64 = .ok (.iadd, 1) := by decide +kernel
theorem dX1_toneOf_65 : decode cX1_toneOf 65 = .ok (.aload_n 0, 1) := by decide +kernel
theorem dX1_toneOf_66 : decode cX1_toneOf 66 = .ok (.getfield 18, 3) := by decide +kernel
theorem dX1_toneOf_69 : decode cX1_toneOf 69 = .ok (.iload_n 1, 1) := by decide +kernel
theorem dX1_toneOf_70 : decode cX1_toneOf 70 = .ok (.iaload, 1) := by decide +kernel
theorem dX1_toneOf_71 : decode cX1_toneOf 71 = .ok (.iadd, 1) := by decide +kernel
theorem dX1_toneOf_72 : decode cX1_toneOf 72 = .ok (.aload_n 0, 1) := by decide +kernel
theorem dX1_toneOf_73 : decode cX1_toneOf 73 = .ok (.getfield 31, 3) := by decide +kernel
theorem dX1_toneOf_76 : decode cX1_toneOf 76 = .ok (.isub, 1) := by decide +kernel
theorem dX1_toneOf_77 : decode cX1_toneOf 77 = .ok (.ireturn, 1) := by decide +kernel
set_option maxRecDepth 20000 in
theorem ggX1_factOf_X1_toneOf : GoodIn wsX1_factOf wsX1_toneOf := goodIn_r _ [11, 5, 2, 1, 3, 12, 13, 14, 15, 16, 17, 18, 19, 20] (by decide +kernel) (by decide +kernel)
set_option maxRecDepth 20000 in
theorem gX1_factOf_X1_toneOf : GoodIn wsX1_factOf (wsV RX1 38 RX1 yX1_toneOf wsX1_toneOf) := goodIn_app (goodIn_of _ (by decide +kernel)) ggX1_factOf_X1_toneOf
theorem dX1_factOf_0 : decode cX1_factOf 0 = .ok (.iload_n 2, 1) := by decide +kernel
theorem dX1_factOf_1 : decode cX1_factOf 1 = .ok (.tableswitch 88 0 5 #[39, 46, 53, 60, 67, 82], 39) := by decide +kernel
theorem dX1_factOf_40 : decode cX1_factOf 40 = .ok (.aload_n 0, 1) := by decide +kernel
theorem dX1_factOf_41 : decode cX1_factOf 41 = .ok (.getfield 9, 3) := by decide +kernel
theorem dX1_factOf_44 : decode cX1_factOf 44 = .ok (.iload_n 1, 1) := by decide +kernel
theorem dX1_factOf_45 : decode cX1_factOf 45 = .ok (.iaload, 1) := by decide +kernel
theorem dX1_factOf_46 : decode cX1_factOf 46 = .ok (.ireturn, 1) := by decide +kernel
theorem dX1_factOf_47 : decode cX1_factOf 47 = .ok (.aload_n 0, 1) := by decide +kernel
theorem dX1_factOf_48 : decode cX1_factOf 48 = .ok (.getfield 15, 3) := by decide +kernel
theorem dX1_factOf_51 : decode cX1_factOf 51 = .ok (.iload_n 1, 1) := by decide +kernel
theorem dX1_factOf_52 : decode cX1_factOf 52 = .ok (.iaload, 1) := by decide +kernel
theorem dX1_factOf_53 : decode cX1_factOf 53 = .ok (.ireturn, 1) := by decide +kernel
theorem dX1_factOf_54 : decode cX1_factOf 54 = .ok (.aload_n 0, 1) := by decide +kernel
theorem dX1_factOf_55 : decode cX1_factOf 55 = .ok (.getfield 18, 3) := by decide +kernel
theorem dX1_factOf_58 : decode cX1_factOf 58 = .ok (.iload_n 1, 1) := by decide +kernel
theorem dX1_factOf_59 : decode cX1_factOf 59 = .ok (.iaload, 1) := by decide +kernel
theorem dX1_factOf_60 : decode cX1_factOf 60 = .ok (.ireturn, 1) := by decide +kernel
theorem dX1_factOf_61 : decode cX1_factOf 61 = .ok (.aload_n 0, 1) := by decide +kernel
theorem dX1_factOf_62 : decode cX1_factOf 62 = .ok (.getfield 21, 3) := by decide +kernel
theorem dX1_factOf_65 : decode cX1_factOf 65 = .ok (.iload_n 1, 1) := by decide +kernel
theorem dX1_factOf_66 : decode cX1_factOf 66 = .ok (.iaload, 1) := by decide +kernel
theorem dX1_factOf_67 : decode cX1_factOf 67 = .ok (.ireturn, 1) := by decide +kernel
theorem dX1_factOf_68 : decode cX1_factOf 68 = .ok (.aload_n 0, 1) := by decide +kernel
theorem dX1_factOf_69 : decode cX1_factOf 69 = .ok (.getfield 27, 3) := by decide +kernel
theorem dX1_factOf_72 : decode cX1_factOf 72 = .ok (.iload_n 1, 1) := by decide +kernel
theorem dX1_factOf_73 : decode cX1_factOf 73 = .ok (.baload, 1) := by decide +kernel
theorem dX1_factOf_74 : decode cX1_factOf 74 = .ok (.ifCond .eq 7, 3) := by decide +kernel
theorem dX1_factOf_77 : decode cX1_factOf 77 = .ok (.iconst 1, 1) := by decide +kernel
theorem dX1_factOf_78 : decode cX1_factOf 78 = .ok (.goto 4, 3) := by decide +kernel
theorem dX1_factOf_81 : decode cX1_factOf 81 = .ok (.iconst 0, 1) := by decide +kernel
theorem dX1_factOf_82 : decode cX1_factOf 82 = .ok (.ireturn, 1) := by decide +kernel
theorem dX1_factOf_83 : decode cX1_factOf 83 = .ok (.aload_n 0, 1) := by decide +kernel
theorem dX1_factOf_84 : decode cX1_factOf 84 = .ok (.iload_n 1, 1) := by decide +kernel
theorem dX1_factOf_85 : decode cX1_factOf 85 = .ok (.invokevirtual 38, 3) := by decide +kernel
theorem dX1_factOf_88 : decode cX1_factOf 88 = .ok (.ireturn, 1) := by decide +kernel
theorem dX1_factOf_89 : decode cX1_factOf 89 = .ok (.aload_n 0, 1) := by decide +kernel
theorem dX1_factOf_90 : decode cX1_factOf 90 = .ok (.getfield 24, 3) := by decide +kernel
theorem dX1_factOf_93 : decode cX1_factOf 93 = .ok (.iload_n 1, 1) := by decide +kernel
theorem dX1_factOf_94 : decode cX1_factOf 94 = .ok (.iaload, 1) := by decide +kernel
theorem dX1_factOf_95 : decode cX1_factOf 95 = .ok (.ireturn, 1) := by decide +kernel
theorem dX1_wholeStrings_0 : decode cX1_wholeStrings 0 = .ok (.iconst 0, 1) := by decide +kernel
theorem dX1_wholeStrings_1 : decode cX1_wholeStrings 1 = .ok (.istore_n 1, 1) := by decide +kernel
theorem dX1_wholeStrings_2 : decode cX1_wholeStrings 2 = .ok (.iconst 0, 1) := by decide +kernel
theorem dX1_wholeStrings_3 : decode cX1_wholeStrings 3 = .ok (.istore_n 2, 1) := by decide +kernel
theorem dX1_wholeStrings_4 : decode cX1_wholeStrings 4 = .ok (.iload_n 2, 1) := by decide +kernel
theorem dX1_wholeStrings_5 : decode cX1_wholeStrings 5 = .ok (.bipush 12, 2) := by decide +kernel
theorem dX1_wholeStrings_7 : decode cX1_wholeStrings 7 = .ok (.if_icmp .ge 21, 3) := by decide +kernel
theorem dX1_wholeStrings_10 : decode cX1_wholeStrings 10 = .ok (.aload_n 0, 1) := by decide +kernel
theorem dX1_wholeStrings_11 : decode cX1_wholeStrings 11 = .ok (.getfield 27, 3) := by decide +kernel
theorem dX1_wholeStrings_14 : decode cX1_wholeStrings 14 = .ok (.iload_n 2, 1) := by decide +kernel
theorem dX1_wholeStrings_15 : decode cX1_wholeStrings 15 = .ok (.baload, 1) := by decide +kernel
theorem dX1_wholeStrings_16 : decode cX1_wholeStrings 16 = .ok (.ifCond .eq 6, 3) := by decide +kernel
theorem dX1_wholeStrings_19 : decode cX1_wholeStrings 19 = .ok (.iinc 1 1, 3) := by decide +kernel
theorem dX1_wholeStrings_22 : decode cX1_wholeStrings 22 = .ok (.iinc 2 1, 3) := by decide +kernel
theorem dX1_wholeStrings_25 : decode cX1_wholeStrings 25 = .ok (.goto (-21), 3) := by decide +kernel
theorem dX1_wholeStrings_28 : decode cX1_wholeStrings 28 = .ok (.iload_n 1, 1) := by decide +kernel
theorem dX1_wholeStrings_29 : decode cX1_wholeStrings 29 = .ok (.ireturn, 1) := by decide +kernel
set_option maxRecDepth 20000 in
theorem ggX1_sumOfTones_X1_toneOf : GoodIn wsX1_sumOfTones wsX1_toneOf := goodIn_r _ [5, 6, 7, 8, 9, 10, 11, 12, 13, 14, 15, 16, 17, 18] (by decide +kernel) (by decide +kernel)
set_option maxRecDepth 20000 in
theorem gX1_sumOfTones_X1_toneOf : GoodIn wsX1_sumOfTones (wsV RX1 38 RX1 yX1_toneOf wsX1_toneOf) := goodIn_app (goodIn_of _ (by decide +kernel)) ggX1_sumOfTones_X1_toneOf
theorem dX1_sumOfTones_0 : decode cX1_sumOfTones 0 = .ok (.iconst 0, 1) := by decide +kernel
theorem dX1_sumOfTones_1 : decode cX1_sumOfTones 1 = .ok (.istore_n 1, 1) := by decide +kernel
theorem dX1_sumOfTones_2 : decode cX1_sumOfTones 2 = .ok (.iconst 0, 1) := by decide +kernel
theorem dX1_sumOfTones_3 : decode cX1_sumOfTones 3 = .ok (.istore_n 2, 1) := by decide +kernel
theorem dX1_sumOfTones_4 : decode cX1_sumOfTones 4 = .ok (.iload_n 2, 1) := by decide +kernel
theorem dX1_sumOfTones_5 : decode cX1_sumOfTones 5 = .ok (.bipush 12, 2) := by decide +kernel
theorem dX1_sumOfTones_7 : decode cX1_sumOfTones 7 = .ok (.if_icmp .ge 17, 3) := by decide +kernel
theorem dX1_sumOfTones_10 : decode cX1_sumOfTones 10 = .ok (.iload_n 1, 1) := by decide +kernel
theorem dX1_sumOfTones_11 : decode cX1_sumOfTones 11 = .ok (.aload_n 0, 1) := by decide +kernel
theorem dX1_sumOfTones_12 : decode cX1_sumOfTones 12 = .ok (.iload_n 2, 1) := by decide +kernel
theorem dX1_sumOfTones_13 : decode cX1_sumOfTones 13 = .ok (.invokevirtual 38, 3) := by decide +kernel
theorem dX1_sumOfTones_16 : decode cX1_sumOfTones 16 = .ok (.iadd, 1) := by decide +kernel
theorem dX1_sumOfTones_17 : decode cX1_sumOfTones 17 = .ok (.istore_n 1, 1) := by decide +kernel
theorem dX1_sumOfTones_18 : decode cX1_sumOfTones 18 = .ok (.iinc 2 1, 3) := by decide +kernel
theorem dX1_sumOfTones_21 : decode cX1_sumOfTones 21 = .ok (.goto (-17), 3) := by decide +kernel
theorem dX1_sumOfTones_24 : decode cX1_sumOfTones 24 = .ok (.iload_n 1, 1) := by decide +kernel
theorem dX1_sumOfTones_25 : decode cX1_sumOfTones 25 = .ok (.ireturn, 1) := by decide +kernel
set_option maxRecDepth 20000 in
theorem ggX1_distanceFrom_X1_toneOf : GoodIn wsX1_distanceFrom wsX1_toneOf := goodIn_r _ [12, 13, 14, 15, 16, 17, 21, 22, 23, 24, 25, 26, 27, 28] (by decide +kernel) (by decide +kernel)
set_option maxRecDepth 20000 in
theorem gX1_distanceFrom_X1_toneOf : GoodIn wsX1_distanceFrom (wsV RX1 38 RX1 yX1_toneOf wsX1_toneOf) := goodIn_app (goodIn_of _ (by decide +kernel)) ggX1_distanceFrom_X1_toneOf
theorem dX1_distanceFrom_0 : decode cX1_distanceFrom 0 = .ok (.iconst 0, 1) := by decide +kernel
theorem dX1_distanceFrom_1 : decode cX1_distanceFrom 1 = .ok (.istore_n 2, 1) := by decide +kernel
theorem dX1_distanceFrom_2 : decode cX1_distanceFrom 2 = .ok (.iconst 0, 1) := by decide +kernel
theorem dX1_distanceFrom_3 : decode cX1_distanceFrom 3 = .ok (.istore_n 3, 1) := by decide +kernel
theorem dX1_distanceFrom_4 : decode cX1_distanceFrom 4 = .ok (.iload_n 3, 1) := by decide +kernel
theorem dX1_distanceFrom_5 : decode cX1_distanceFrom 5 = .ok (.aload_n 1, 1) := by decide +kernel
theorem dX1_distanceFrom_6 : decode cX1_distanceFrom 6 = .ok (.getfield 42, 3) := by decide +kernel
theorem dX1_distanceFrom_9 : decode cX1_distanceFrom 9 = .ok (.if_icmp .ge 32, 3) := by decide +kernel
theorem dX1_distanceFrom_12 : decode cX1_distanceFrom 12 = .ok (.iload_n 2, 1) := by decide +kernel
theorem dX1_distanceFrom_13 : decode cX1_distanceFrom 13 = .ok (.aload_n 0, 1) := by decide +kernel
theorem dX1_distanceFrom_14 : decode cX1_distanceFrom 14 = .ok (.aload_n 1, 1) := by decide +kernel
theorem dX1_distanceFrom_15 : decode cX1_distanceFrom 15 = .ok (.getfield 47, 3) := by decide +kernel
theorem dX1_distanceFrom_18 : decode cX1_distanceFrom 18 = .ok (.iload_n 3, 1) := by decide +kernel
theorem dX1_distanceFrom_19 : decode cX1_distanceFrom 19 = .ok (.iadd, 1) := by decide +kernel
theorem dX1_distanceFrom_20 : decode cX1_distanceFrom 20 = .ok (.invokevirtual 38, 3) := by decide +kernel
theorem dX1_distanceFrom_23 : decode cX1_distanceFrom 23 = .ok (.aload_n 1, 1) := by decide +kernel
theorem dX1_distanceFrom_24 : decode cX1_distanceFrom 24 = .ok (.getfield 50, 3) := by decide +kernel
theorem dX1_distanceFrom_27 : decode cX1_distanceFrom 27 = .ok (.iload_n 3, 1) := by decide +kernel
theorem dX1_distanceFrom_28 : decode cX1_distanceFrom 28 = .ok (.iaload, 1) := by decide +kernel
theorem dX1_distanceFrom_29 : decode cX1_distanceFrom 29 = .ok (.isub, 1) := by decide +kernel
theorem dX1_distanceFrom_30 : decode cX1_distanceFrom 30 = .ok (.invokestatic 53, 3) := by decide +kernel
theorem dX1_distanceFrom_33 : decode cX1_distanceFrom 33 = .ok (.iadd, 1) := by decide +kernel
theorem dX1_distanceFrom_34 : decode cX1_distanceFrom 34 = .ok (.istore_n 2, 1) := by decide +kernel
theorem dX1_distanceFrom_35 : decode cX1_distanceFrom 35 = .ok (.iinc 3 1, 3) := by decide +kernel
theorem dX1_distanceFrom_38 : decode cX1_distanceFrom 38 = .ok (.goto (-34), 3) := by decide +kernel
theorem dX1_distanceFrom_41 : decode cX1_distanceFrom 41 = .ok (.iload_n 2, 1) := by decide +kernel
theorem dX1_distanceFrom_42 : decode cX1_distanceFrom 42 = .ok (.ireturn, 1) := by decide +kernel
set_option maxRecDepth 20000 in
theorem ggX1_isTunedTo_X1_fitsPushed : GoodIn wsX1_isTunedTo wsX1_fitsPushed := goodIn_r _ [6, 7, 8, 9, 10, 11, 12, 13, 14, 15, 16, 5, 17, 18, 19, 20, 21, 22, 23, 24, 25, 26, 27, 28, 29, 30, 31, 32] (by decide +kernel) (by decide +kernel)
set_option maxRecDepth 20000 in
theorem gX1_isTunedTo_X1_fitsPushed : GoodIn wsX1_isTunedTo (wsV RX1 58 RX1 yX1_fitsPushed wsX1_fitsPushed) := goodIn_app (goodIn_of _ (by decide +kernel)) ggX1_isTunedTo_X1_fitsPushed
theorem dX1_isTunedTo_0 : decode cX1_isTunedTo 0 = .ok (.iconst 0, 1) := by decide +kernel
theorem dX1_isTunedTo_1 : decode cX1_isTunedTo 1 = .ok (.istore_n 2, 1) := by decide +kernel
theorem dX1_isTunedTo_2 : decode cX1_isTunedTo 2 = .ok (.iload_n 2, 1) := by decide +kernel
theorem dX1_isTunedTo_3 : decode cX1_isTunedTo 3 = .ok (.aload_n 1, 1) := by decide +kernel
theorem dX1_isTunedTo_4 : decode cX1_isTunedTo 4 = .ok (.getfield 42, 3) := by decide +kernel
theorem dX1_isTunedTo_7 : decode cX1_isTunedTo 7 = .ok (.if_icmp .ge 22, 3) := by decide +kernel
theorem dX1_isTunedTo_10 : decode cX1_isTunedTo 10 = .ok (.aload_n 0, 1) := by decide +kernel
theorem dX1_isTunedTo_11 : decode cX1_isTunedTo 11 = .ok (.aload_n 1, 1) := by decide +kernel
theorem dX1_isTunedTo_12 : decode cX1_isTunedTo 12 = .ok (.iload_n 2, 1) := by decide +kernel
theorem dX1_isTunedTo_13 : decode cX1_isTunedTo 13 = .ok (.iconst 0, 1) := by decide +kernel
theorem dX1_isTunedTo_14 : decode cX1_isTunedTo 14 = .ok (.iconst 0, 1) := by decide +kernel
theorem dX1_isTunedTo_15 : decode cX1_isTunedTo 15 = .ok (.invokevirtual 58, 3) := by decide +kernel
theorem dX1_isTunedTo_18 : decode cX1_isTunedTo 18 = .ok (.ifCond .ne 5, 3) := by decide +kernel
theorem dX1_isTunedTo_21 : decode cX1_isTunedTo 21 = .ok (.iconst 0, 1) := by decide +kernel
theorem dX1_isTunedTo_22 : decode cX1_isTunedTo 22 = .ok (.ireturn, 1) := by decide +kernel
theorem dX1_isTunedTo_23 : decode cX1_isTunedTo 23 = .ok (.iinc 2 1, 3) := by decide +kernel
theorem dX1_isTunedTo_26 : decode cX1_isTunedTo 26 = .ok (.goto (-24), 3) := by decide +kernel
theorem dX1_isTunedTo_29 : decode cX1_isTunedTo 29 = .ok (.iconst 1, 1) := by decide +kernel
theorem dX1_isTunedTo_30 : decode cX1_isTunedTo 30 = .ok (.ireturn, 1) := by decide +kernel
set_option maxRecDepth 20000 in
theorem ggX1_fitsPushed_X1_toneOf : GoodIn wsX1_fitsPushed wsX1_toneOf := goodIn_r _ [12, 2, 13, 14, 15, 16, 20, 21, 22, 23, 24, 25, 26, 27] (by decide +kernel) (by decide +kernel)
set_option maxRecDepth 20000 in
theorem gX1_fitsPushed_X1_toneOf : GoodIn wsX1_fitsPushed (wsV RX1 38 RX1 yX1_toneOf wsX1_toneOf) := goodIn_app (goodIn_of _ (by decide +kernel)) ggX1_fitsPushed_X1_toneOf
theorem dX1_fitsPushed_0 : decode cX1_fitsPushed 0 = .ok (.aload_n 1, 1) := by decide +kernel
theorem dX1_fitsPushed_1 : decode cX1_fitsPushed 1 = .ok (.getfield 47, 3) := by decide +kernel
theorem dX1_fitsPushed_4 : decode cX1_fitsPushed 4 = .ok (.iload_n 2, 1) := by decide +kernel
theorem dX1_fitsPushed_5 : decode cX1_fitsPushed 5 = .ok (.iadd, 1) := by decide +kernel
theorem dX1_fitsPushed_6 : decode cX1_fitsPushed 6 = .ok (.istore 5, 2) := by decide +kernel
theorem dX1_fitsPushed_8 : decode cX1_fitsPushed 8 = .ok (.aload_n 0, 1) := by decide +kernel
theorem dX1_fitsPushed_9 : decode cX1_fitsPushed 9 = .ok (.iload 5, 2) := by decide +kernel
theorem dX1_fitsPushed_11 : decode cX1_fitsPushed 11 = .ok (.invokevirtual 38, 3) := by decide +kernel
theorem dX1_fitsPushed_14 : decode cX1_fitsPushed 14 = .ok (.bipush 10, 2) := by decide +kernel
theorem dX1_fitsPushed_16 : decode cX1_fitsPushed 16 = .ok (.iload_n 3, 1) := by decide +kernel
theorem dX1_fitsPushed_17 : decode cX1_fitsPushed 17 = .ok (.imul, 1) := by decide +kernel
theorem dX1_fitsPushed_18 : decode cX1_fitsPushed 18 = .ok (.iadd, 1) := by decide +kernel
theorem dX1_fitsPushed_19 : decode cX1_fitsPushed 19 = .ok (.iconst 3, 1) := by decide +kernel
theorem dX1_fitsPushed_20 : decode cX1_fitsPushed 20 = .ok (.iload 4, 2) := by decide +kernel
theorem dX1_fitsPushed_22 : decode cX1_fitsPushed 22 = .ok (.imul, 1) := by decide +kernel
theorem dX1_fitsPushed_23 : decode cX1_fitsPushed 23 = .ok (.iadd, 1) := by decide +kernel
theorem dX1_fitsPushed_24 : decode cX1_fitsPushed 24 = .ok (.istore 6, 2) := by decide +kernel
theorem dX1_fitsPushed_26 : decode cX1_fitsPushed 26 = .ok (.aload_n 0, 1) := by decide +kernel
theorem dX1_fitsPushed_27 : decode cX1_fitsPushed 27 = .ok (.getfield 27, 3) := by decide +kernel
theorem dX1_fitsPushed_30 : decode cX1_fitsPushed 30 = .ok (.iload 5, 2) := by decide +kernel
theorem dX1_fitsPushed_32 : decode cX1_fitsPushed 32 = .ok (.baload, 1) := by decide +kernel
theorem dX1_fitsPushed_33 : decode cX1_fitsPushed 33 = .ok (.ifCond .eq 23, 3) := by decide +kernel
theorem dX1_fitsPushed_36 : decode cX1_fitsPushed 36 = .ok (.iload 6, 2) := by decide +kernel
theorem dX1_fitsPushed_38 : decode cX1_fitsPushed 38 = .ok (.aload_n 1, 1) := by decide +kernel
theorem dX1_fitsPushed_39 : decode cX1_fitsPushed 39 = .ok (.getfield 50, 3) := by decide +kernel
theorem dX1_fitsPushed_42 : decode cX1_fitsPushed 42 = .ok (.iload_n 2, 1) := by decide +kernel
theorem dX1_fitsPushed_43 : decode cX1_fitsPushed 43 = .ok (.iaload, 1) := by decide +kernel
theorem dX1_fitsPushed_44 : decode cX1_fitsPushed 44 = .ok (.isub, 1) := by decide +kernel
theorem dX1_fitsPushed_45 : decode cX1_fitsPushed 45 = .ok (.invokestatic 53, 3) := by decide +kernel
theorem dX1_fitsPushed_48 : decode cX1_fitsPushed 48 = .ok (.iconst 5, 1) := by decide +kernel
theorem dX1_fitsPushed_49 : decode cX1_fitsPushed 49 = .ok (.if_icmp .gt 7, 3) := by decide +kernel
theorem dX1_fitsPushed_52 : decode cX1_fitsPushed 52 = .ok (.iconst 1, 1) := by decide +kernel
theorem dX1_fitsPushed_53 : decode cX1_fitsPushed 53 = .ok (.goto 4, 3) := by decide +kernel
theorem dX1_fitsPushed_56 : decode cX1_fitsPushed 56 = .ok (.iconst 0, 1) := by decide +kernel
theorem dX1_fitsPushed_57 : decode cX1_fitsPushed 57 = .ok (.ireturn, 1) := by decide +kernel
set_option maxRecDepth 20000 in
theorem ggX1_hourOfTable_J9_floorMod_7cf53 : GoodIn wsX1_hourOfTable wsJ9_floorMod_7cf53 := goodIn_r _ [5] (by decide +kernel) (by decide +kernel)
set_option maxRecDepth 20000 in
theorem gX1_hourOfTable_J9_floorMod_7cf53 : GoodIn wsX1_hourOfTable (va_wsS RX1 62 yJ9_floorMod_7cf53 wsJ9_floorMod_7cf53) := goodIn_app (goodIn_of _ (by decide +kernel)) ggX1_hourOfTable_J9_floorMod_7cf53
theorem dX1_hourOfTable_0 : decode cX1_hourOfTable 0 = .ok (.aload_n 0, 1) := by decide +kernel
theorem dX1_hourOfTable_1 : decode cX1_hourOfTable 1 = .ok (.getfield 35, 3) := by decide +kernel
theorem dX1_hourOfTable_4 : decode cX1_hourOfTable 4 = .ok (.bipush 12, 2) := by decide +kernel
theorem dX1_hourOfTable_6 : decode cX1_hourOfTable 6 = .ok (.invokestatic 62, 3) := by decide +kernel
theorem dX1_hourOfTable_9 : decode cX1_hourOfTable 9 = .ok (.ireturn, 1) := by decide +kernel
set_option maxRecDepth 20000 in
theorem ggX1_spendHour_X1_breaksIn : GoodIn wsX1_spendHour wsX1_breaksIn := goodIn_r _ [7, 8, 9, 10, 11, 12, 1, 13, 14, 15, 16, 17, 6, 18, 19, 20, 21, 33, 34, 35, 36, 37, 38, 39, 40] (by decide +kernel) (by decide +kernel)
set_option maxRecDepth 20000 in
theorem gX1_spendHour_X1_breaksIn : GoodIn wsX1_spendHour (wsV RX1 66 RX1 yX1_breaksIn wsX1_breaksIn) := goodIn_app (goodIn_of _ (by decide +kernel)) ggX1_spendHour_X1_breaksIn
set_option maxRecDepth 20000 in
theorem ggX1_spendHour_X1_slip : GoodIn wsX1_spendHour wsX1_slip := goodIn_r _ [25, 8, 13, 9, 10, 11, 12, 26, 27, 28, 33, 34, 35, 36, 37, 38, 39, 40] (by decide +kernel) (by decide +kernel)
set_option maxRecDepth 20000 in
theorem gX1_spendHour_X1_slip : GoodIn wsX1_spendHour (wsV RX1 70 RX1 yX1_slip wsX1_slip) := goodIn_app (goodIn_of _ (by decide +kernel)) ggX1_spendHour_X1_slip
set_option maxRecDepth 20000 in
theorem ggX1_spendHour_X1_swell : GoodIn wsX1_spendHour wsX1_swell := goodIn_r _ [32, 21, 26, 27, 11, 28, 9, 10, 12, 33, 34, 35, 36, 37, 38, 39, 40] (by decide +kernel) (by decide +kernel)
set_option maxRecDepth 20000 in
theorem gX1_spendHour_X1_swell : GoodIn wsX1_spendHour (wsV RX1 74 RX1 yX1_swell wsX1_swell) := goodIn_app (goodIn_of _ (by decide +kernel)) ggX1_spendHour_X1_swell
theorem dX1_spendHour_0 : decode cX1_spendHour 0 = .ok (.iconst 0, 1) := by decide +kernel
theorem dX1_spendHour_1 : decode cX1_spendHour 1 = .ok (.istore 5, 2) := by decide +kernel
theorem dX1_spendHour_3 : decode cX1_spendHour 3 = .ok (.iload_n 1, 1) := by decide +kernel
theorem dX1_spendHour_4 : decode cX1_spendHour 4 = .ok (.istore 6, 2) := by decide +kernel
theorem dX1_spendHour_6 : decode cX1_spendHour 6 = .ok (.iload 6, 2) := by decide +kernel
theorem dX1_spendHour_8 : decode cX1_spendHour 8 = .ok (.iload_n 2, 1) := by decide +kernel
theorem dX1_spendHour_9 : decode cX1_spendHour 9 = .ok (.if_icmp .ge 53, 3) := by decide +kernel
theorem dX1_spendHour_12 : decode cX1_spendHour 12 = .ok (.aload_n 0, 1) := by decide +kernel
theorem dX1_spendHour_13 : decode cX1_spendHour 13 = .ok (.getfield 27, 3) := by decide +kernel
theorem dX1_spendHour_16 : decode cX1_spendHour 16 = .ok (.iload 6, 2) := by decide +kernel
theorem dX1_spendHour_18 : decode cX1_spendHour 18 = .ok (.baload, 1) := by decide +kernel
theorem dX1_spendHour_19 : decode cX1_spendHour 19 = .ok (.ifCond .eq 19, 3) := by decide +kernel
theorem dX1_spendHour_22 : decode cX1_spendHour 22 = .ok (.aload_n 0, 1) := by decide +kernel
theorem dX1_spendHour_23 : decode cX1_spendHour 23 = .ok (.iload 6, 2) := by decide +kernel
theorem dX1_spendHour_25 : decode cX1_spendHour 25 = .ok (.iload_n 3, 1) := by decide +kernel
theorem dX1_spendHour_26 : decode cX1_spendHour 26 = .ok (.invokevirtual 66, 3) := by decide +kernel
theorem dX1_spendHour_29 : decode cX1_spendHour 29 = .ok (.ifCond .eq 9, 3) := by decide +kernel
theorem dX1_spendHour_32 : decode cX1_spendHour 32 = .ok (.iinc 5 1, 3) := by decide +kernel
theorem dX1_spendHour_35 : decode cX1_spendHour 35 = .ok (.goto 21, 3) := by decide +kernel
theorem dX1_spendHour_38 : decode cX1_spendHour 38 = .ok (.aload_n 0, 1) := by decide +kernel
theorem dX1_spendHour_39 : decode cX1_spendHour 39 = .ok (.getfield 27, 3) := by decide +kernel
theorem dX1_spendHour_42 : decode cX1_spendHour 42 = .ok (.iload 6, 2) := by decide +kernel
theorem dX1_spendHour_44 : decode cX1_spendHour 44 = .ok (.baload, 1) := by decide +kernel
theorem dX1_spendHour_45 : decode cX1_spendHour 45 = .ok (.ifCond .eq 11, 3) := by decide +kernel
theorem dX1_spendHour_48 : decode cX1_spendHour 48 = .ok (.aload_n 0, 1) := by decide +kernel
theorem dX1_spendHour_49 : decode cX1_spendHour 49 = .ok (.iload 6, 2) := by decide +kernel
theorem dX1_spendHour_51 : decode cX1_spendHour 51 = .ok (.iload 4, 2) := by decide +kernel
theorem dX1_spendHour_53 : decode cX1_spendHour 53 = .ok (.invokevirtual 70, 3) := by decide +kernel
theorem dX1_spendHour_56 : decode cX1_spendHour 56 = .ok (.iinc 6 1, 3) := by decide +kernel
theorem dX1_spendHour_59 : decode cX1_spendHour 59 = .ok (.goto (-53), 3) := by decide +kernel
theorem dX1_spendHour_62 : decode cX1_spendHour 62 = .ok (.aload_n 0, 1) := by decide +kernel
theorem dX1_spendHour_63 : decode cX1_spendHour 63 = .ok (.iload 4, 2) := by decide +kernel
theorem dX1_spendHour_65 : decode cX1_spendHour 65 = .ok (.invokevirtual 74, 3) := by decide +kernel
theorem dX1_spendHour_68 : decode cX1_spendHour 68 = .ok (.aload_n 0, 1) := by decide +kernel
theorem dX1_spendHour_69 : decode cX1_spendHour 69 = .ok (.dup, 1) := by decide +kernel
theorem dX1_spendHour_70 : decode cX1_spendHour 70 = .ok (.getfield 35, 3) := by decide +kernel
theorem dX1_spendHour_73 : decode cX1_spendHour 73 = .ok (.iconst 1, 1) := by decide +kernel
theorem dX1_spendHour_74 : decode cX1_spendHour 74 = .ok (.iadd, 1) := by decide +kernel
theorem dX1_spendHour_75 : decode cX1_spendHour 75 = .ok (.putfield 35, 3) := by decide +kernel
theorem dX1_spendHour_78 : decode cX1_spendHour 78 = .ok (.iload 5, 2) := by decide +kernel
theorem dX1_spendHour_80 : decode cX1_spendHour 80 = .ok (.ireturn, 1) := by decide +kernel
set_option maxRecDepth 20000 in
theorem ggX1_breaksIn_X1_toneOf : GoodIn wsX1_breaksIn wsX1_toneOf := goodIn_r _ [13, 6, 14, 15, 7, 16, 17, 18, 19, 20, 21, 22, 23, 24] (by decide +kernel) (by decide +kernel)
set_option maxRecDepth 20000 in
theorem gX1_breaksIn_X1_toneOf : GoodIn wsX1_breaksIn (wsV RX1 38 RX1 yX1_toneOf wsX1_toneOf) := goodIn_app (goodIn_of _ (by decide +kernel)) ggX1_breaksIn_X1_toneOf
theorem dX1_breaksIn_0 : decode cX1_breaksIn 0 = .ok (.iconst 0, 1) := by decide +kernel
theorem dX1_breaksIn_1 : decode cX1_breaksIn 1 = .ok (.aload_n 0, 1) := by decide +kernel
theorem dX1_breaksIn_2 : decode cX1_breaksIn 2 = .ok (.getfield 21, 3) := by decide +kernel
theorem dX1_breaksIn_5 : decode cX1_breaksIn 5 = .ok (.iload_n 1, 1) := by decide +kernel
theorem dX1_breaksIn_6 : decode cX1_breaksIn 6 = .ok (.iaload, 1) := by decide +kernel
theorem dX1_breaksIn_7 : decode cX1_breaksIn 7 = .ok (.iload_n 2, 1) := by decide +kernel
theorem dX1_breaksIn_8 : decode cX1_breaksIn 8 = .ok (.aload_n 0, 1) := by decide +kernel
theorem dX1_breaksIn_9 : decode cX1_breaksIn 9 = .ok (.iload_n 1, 1) := by decide +kernel
theorem dX1_breaksIn_10 : decode cX1_breaksIn 10 = .ok (.invokevirtual 38, 3) := by decide +kernel
theorem dX1_breaksIn_13 : decode cX1_breaksIn 13 = .ok (.imul, 1) := by decide +kernel
theorem dX1_breaksIn_14 : decode cX1_breaksIn 14 = .ok (.sipush 1000, 3) := by decide +kernel
theorem dX1_breaksIn_17 : decode cX1_breaksIn 17 = .ok (.idiv, 1) := by decide +kernel
theorem dX1_breaksIn_18 : decode cX1_breaksIn 18 = .ok (.iadd, 1) := by decide +kernel
theorem dX1_breaksIn_19 : decode cX1_breaksIn 19 = .ok (.iconst 2, 1) := by decide +kernel
theorem dX1_breaksIn_20 : decode cX1_breaksIn 20 = .ok (.isub, 1) := by decide +kernel
theorem dX1_breaksIn_21 : decode cX1_breaksIn 21 = .ok (.invokestatic 78, 3) := by decide +kernel
theorem dX1_breaksIn_24 : decode cX1_breaksIn 24 = .ok (.istore_n 3, 1) := by decide +kernel
theorem dX1_breaksIn_25 : decode cX1_breaksIn 25 = .ok (.iload_n 3, 1) := by decide +kernel
theorem dX1_breaksIn_26 : decode cX1_breaksIn 26 = .ok (.bipush 100, 2) := by decide +kernel
theorem dX1_breaksIn_28 : decode cX1_breaksIn 28 = .ok (.if_icmp .gt 12, 3) := by decide +kernel
theorem dX1_breaksIn_31 : decode cX1_breaksIn 31 = .ok (.aload_n 0, 1) := by decide +kernel
theorem dX1_breaksIn_32 : decode cX1_breaksIn 32 = .ok (.getfield 21, 3) := by decide +kernel
theorem dX1_breaksIn_35 : decode cX1_breaksIn 35 = .ok (.iload_n 1, 1) := by decide +kernel
theorem dX1_breaksIn_36 : decode cX1_breaksIn 36 = .ok (.iload_n 3, 1) := by decide +kernel
theorem dX1_breaksIn_37 : decode cX1_breaksIn 37 = .ok (.iastore, 1) := by decide +kernel
theorem dX1_breaksIn_38 : decode cX1_breaksIn 38 = .ok (.iconst 0, 1) := by decide +kernel
theorem dX1_breaksIn_39 : decode cX1_breaksIn 39 = .ok (.ireturn, 1) := by decide +kernel
theorem dX1_breaksIn_40 : decode cX1_breaksIn 40 = .ok (.aload_n 0, 1) := by decide +kernel
theorem dX1_breaksIn_41 : decode cX1_breaksIn 41 = .ok (.getfield 27, 3) := by decide +kernel
theorem dX1_breaksIn_44 : decode cX1_breaksIn 44 = .ok (.iload_n 1, 1) := by decide +kernel
theorem dX1_breaksIn_45 : decode cX1_breaksIn 45 = .ok (.iconst 0, 1) := by decide +kernel
theorem dX1_breaksIn_46 : decode cX1_breaksIn 46 = .ok (.bastore, 1) := by decide +kernel
theorem dX1_breaksIn_47 : decode cX1_breaksIn 47 = .ok (.aload_n 0, 1) := by decide +kernel
theorem dX1_breaksIn_48 : decode cX1_breaksIn 48 = .ok (.getfield 21, 3) := by decide +kernel
theorem dX1_breaksIn_51 : decode cX1_breaksIn 51 = .ok (.iload_n 1, 1) := by decide +kernel
theorem dX1_breaksIn_52 : decode cX1_breaksIn 52 = .ok (.iconst 0, 1) := by decide +kernel
theorem dX1_breaksIn_53 : decode cX1_breaksIn 53 = .ok (.iastore, 1) := by decide +kernel
theorem dX1_breaksIn_54 : decode cX1_breaksIn 54 = .ok (.aload_n 0, 1) := by decide +kernel
theorem dX1_breaksIn_55 : decode cX1_breaksIn 55 = .ok (.getfield 18, 3) := by decide +kernel
theorem dX1_breaksIn_58 : decode cX1_breaksIn 58 = .ok (.iload_n 1, 1) := by decide +kernel
theorem dX1_breaksIn_59 : decode cX1_breaksIn 59 = .ok (.iconst 0, 1) := by decide +kernel
theorem dX1_breaksIn_60 : decode cX1_breaksIn 60 = .ok (.iastore, 1) := by decide +kernel
theorem dX1_breaksIn_61 : decode cX1_breaksIn 61 = .ok (.aload_n 0, 1) := by decide +kernel
theorem dX1_breaksIn_62 : decode cX1_breaksIn 62 = .ok (.getfield 24, 3) := by decide +kernel
theorem dX1_breaksIn_65 : decode cX1_breaksIn 65 = .ok (.iload_n 1, 1) := by decide +kernel
theorem dX1_breaksIn_66 : decode cX1_breaksIn 66 = .ok (.dup2, 1) := by decide +kernel
theorem dX1_breaksIn_67 : decode cX1_breaksIn 67 = .ok (.iaload, 1) := by decide +kernel
theorem dX1_breaksIn_68 : decode cX1_breaksIn 68 = .ok (.iconst 1, 1) := by decide +kernel
theorem dX1_breaksIn_69 : decode cX1_breaksIn 69 = .ok (.iadd, 1) := by decide +kernel
theorem dX1_breaksIn_70 : decode cX1_breaksIn 70 = .ok (.iastore, 1) := by decide +kernel
theorem dX1_breaksIn_71 : decode cX1_breaksIn 71 = .ok (.iconst 1, 1) := by decide +kernel
theorem dX1_breaksIn_72 : decode cX1_breaksIn 72 = .ok (.ireturn, 1) := by decide +kernel
theorem dX1_slip_0 : decode cX1_slip 0 = .ok (.aload_n 0, 1) := by decide +kernel
theorem dX1_slip_1 : decode cX1_slip 1 = .ok (.getfield 21, 3) := by decide +kernel
theorem dX1_slip_4 : decode cX1_slip 4 = .ok (.iload_n 1, 1) := by decide +kernel
theorem dX1_slip_5 : decode cX1_slip 5 = .ok (.iaload, 1) := by decide +kernel
theorem dX1_slip_6 : decode cX1_slip 6 = .ok (.bipush 50, 2) := by decide +kernel
theorem dX1_slip_8 : decode cX1_slip 8 = .ok (.if_icmp .lt 25, 3) := by decide +kernel
theorem dX1_slip_11 : decode cX1_slip 11 = .ok (.aload_n 0, 1) := by decide +kernel
theorem dX1_slip_12 : decode cX1_slip 12 = .ok (.getfield 18, 3) := by decide +kernel
theorem dX1_slip_15 : decode cX1_slip 15 = .ok (.iload_n 1, 1) := by decide +kernel
theorem dX1_slip_16 : decode cX1_slip 16 = .ok (.bipush (-50), 2) := by decide +kernel
theorem dX1_slip_18 : decode cX1_slip 18 = .ok (.aload_n 0, 1) := by decide +kernel
theorem dX1_slip_19 : decode cX1_slip 19 = .ok (.getfield 18, 3) := by decide +kernel
theorem dX1_slip_22 : decode cX1_slip 22 = .ok (.iload_n 1, 1) := by decide +kernel
theorem dX1_slip_23 : decode cX1_slip 23 = .ok (.iaload, 1) := by decide +kernel
theorem dX1_slip_24 : decode cX1_slip 24 = .ok (.iconst 1, 1) := by decide +kernel
theorem dX1_slip_25 : decode cX1_slip 25 = .ok (.isub, 1) := by decide +kernel
theorem dX1_slip_26 : decode cX1_slip 26 = .ok (.invokestatic 78, 3) := by decide +kernel
theorem dX1_slip_29 : decode cX1_slip 29 = .ok (.iastore, 1) := by decide +kernel
theorem dX1_slip_30 : decode cX1_slip 30 = .ok (.goto 28, 3) := by decide +kernel
theorem dX1_slip_33 : decode cX1_slip 33 = .ok (.iload_n 2, 1) := by decide +kernel
theorem dX1_slip_34 : decode cX1_slip 34 = .ok (.bipush 6, 2) := by decide +kernel
theorem dX1_slip_36 : decode cX1_slip 36 = .ok (.if_icmp .lt 22, 3) := by decide +kernel
theorem dX1_slip_39 : decode cX1_slip 39 = .ok (.aload_n 0, 1) := by decide +kernel
theorem dX1_slip_40 : decode cX1_slip 40 = .ok (.getfield 18, 3) := by decide +kernel
theorem dX1_slip_43 : decode cX1_slip 43 = .ok (.iload_n 1, 1) := by decide +kernel
theorem dX1_slip_44 : decode cX1_slip 44 = .ok (.bipush 50, 2) := by decide +kernel
theorem dX1_slip_46 : decode cX1_slip 46 = .ok (.aload_n 0, 1) := by decide +kernel
theorem dX1_slip_47 : decode cX1_slip 47 = .ok (.getfield 18, 3) := by decide +kernel
theorem dX1_slip_50 : decode cX1_slip 50 = .ok (.iload_n 1, 1) := by decide +kernel
theorem dX1_slip_51 : decode cX1_slip 51 = .ok (.iaload, 1) := by decide +kernel
theorem dX1_slip_52 : decode cX1_slip 52 = .ok (.iconst 1, 1) := by decide +kernel
theorem dX1_slip_53 : decode cX1_slip 53 = .ok (.iadd, 1) := by decide +kernel
theorem dX1_slip_54 : decode cX1_slip 54 = .ok (.invokestatic 81, 3) := by decide +kernel
theorem dX1_slip_57 : decode cX1_slip 57 = .ok (.iastore, 1) := by decide +kernel
theorem dX1_slip_58 : decode cX1_slip 58 = .ok (.return_, 1) := by decide +kernel
theorem dX1_swell_0 : decode cX1_swell 0 = .ok (.aload_n 0, 1) := by decide +kernel
theorem dX1_swell_1 : decode cX1_swell 1 = .ok (.iload_n 1, 1) := by decide +kernel
theorem dX1_swell_2 : decode cX1_swell 2 = .ok (.iconst 5, 1) := by decide +kernel
theorem dX1_swell_3 : decode cX1_swell 3 = .ok (.if_icmp .lt 17, 3) := by decide +kernel
theorem dX1_swell_6 : decode cX1_swell 6 = .ok (.bipush 30, 2) := by decide +kernel
theorem dX1_swell_8 : decode cX1_swell 8 = .ok (.aload_n 0, 1) := by decide +kernel
theorem dX1_swell_9 : decode cX1_swell 9 = .ok (.getfield 31, 3) := by decide +kernel
theorem dX1_swell_12 : decode cX1_swell 12 = .ok (.iconst 1, 1) := by decide +kernel
theorem dX1_swell_13 : decode cX1_swell 13 = .ok (.iadd, 1) := by decide +kernel
theorem dX1_swell_14 : decode cX1_swell 14 = .ok (.invokestatic 81, 3) := by decide +kernel
theorem dX1_swell_17 : decode cX1_swell 17 = .ok (.goto 13, 3) := by decide +kernel
theorem dX1_swell_20 : decode cX1_swell 20 = .ok (.iconst 0, 1) := by decide +kernel
theorem dX1_swell_21 : decode cX1_swell 21 = .ok (.aload_n 0, 1) := by decide +kernel
theorem dX1_swell_22 : decode cX1_swell 22 = .ok (.getfield 31, 3) := by decide +kernel
theorem dX1_swell_25 : decode cX1_swell 25 = .ok (.iconst 1, 1) := by decide +kernel
theorem dX1_swell_26 : decode cX1_swell 26 = .ok (.isub, 1) := by decide +kernel
theorem dX1_swell_27 : decode cX1_swell 27 = .ok (.invokestatic 78, 3) := by decide +kernel
theorem dX1_swell_30 : decode cX1_swell 30 = .ok (.putfield 31, 3) := by decide +kernel
theorem dX1_swell_33 : decode cX1_swell 33 = .ok (.return_, 1) := by decide +kernel
