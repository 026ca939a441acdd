theorem dX0_init_0 : decode cX0_init 0 = .ok (.aload_n 0, 1) := by decide +kernel
theorem dX0_init_1 : decode cX0_init 1 = .ok (.invokespecial 1, 3) := by decide +kernel
theorem dX0_init_4 : decode cX0_init 4 = .ok (.aload_n 0, 1) := by decide +kernel
theorem dX0_init_5 : decode cX0_init 5 = .ok (.iload_n 1, 1) := by decide +kernel
theorem dX0_init_6 : decode cX0_init 6 = .ok (.putfield 7, 3) := by decide +kernel
theorem dX0_init_9 : decode cX0_init 9 = .ok (.aload_n 0, 1) := by decide +kernel
theorem dX0_init_10 : decode cX0_init 10 = .ok (.iload_n 2, 1) := by decide +kernel
theorem dX0_init_11 : decode cX0_init 11 = .ok (.putfield 13, 3) := by decide +kernel
theorem dX0_init_14 : decode cX0_init 14 = .ok (.aload_n 0, 1) := by decide +kernel
theorem dX0_init_15 : decode cX0_init 15 = .ok (.aload_n 3, 1) := by decide +kernel
theorem dX0_init_16 : decode cX0_init 16 = .ok (.putfield 16, 3) := by decide +kernel
theorem dX0_init_19 : decode cX0_init 19 = .ok (.return_, 1) := by decide +kernel
theorem dX1_init_0 : decode cX1_init 0 = .ok (.aload_n 0, 1) := by decide +kernel
theorem dX1_init_1 : decode cX1_init 1 = .ok (.invokespecial 3, 3) := by decide +kernel
theorem dX1_init_4 : decode cX1_init 4 = .ok (.aload_n 0, 1) := by decide +kernel
theorem dX1_init_5 : decode cX1_init 5 = .ok (.iconst (-1), 1) := by decide +kernel
theorem dX1_init_6 : decode cX1_init 6 = .ok (.putfield 9, 3) := by decide +kernel
theorem dX1_init_9 : decode cX1_init 9 = .ok (.aload_n 0, 1) := by decide +kernel
theorem dX1_init_10 : decode cX1_init 10 = .ok (.iconst (-1), 1) := by decide +kernel
theorem dX1_init_11 : decode cX1_init 11 = .ok (.putfield 15, 3) := by decide +kernel
theorem dX1_init_14 : decode cX1_init 14 = .ok (.return_, 1) := by decide +kernel
theorem dX1_become_0 : decode cX1_become 0 = .ok (.aload_n 0, 1) := by decide +kernel
theorem dX1_become_1 : decode cX1_become 1 = .ok (.iload_n 1, 1) := by decide +kernel
theorem dX1_become_2 : decode cX1_become 2 = .ok (.putfield 18, 3) := by decide +kernel
theorem dX1_become_5 : decode cX1_become 5 = .ok (.aload_n 0, 1) := by decide +kernel
theorem dX1_become_6 : decode cX1_become 6 = .ok (.iload_n 2, 1) := by decide +kernel
theorem dX1_become_7 : decode cX1_become 7 = .ok (.putfield 21, 3) := by decide +kernel
theorem dX1_become_10 : decode cX1_become 10 = .ok (.aload_n 0, 1) := by decide +kernel
theorem dX1_become_11 : decode cX1_become 11 = .ok (.iload_n 3, 1) := by decide +kernel
theorem dX1_become_12 : decode cX1_become 12 = .ok (.putfield 24, 3) := by decide +kernel
theorem dX1_become_15 : decode cX1_become 15 = .ok (.aload_n 0, 1) := by decide +kernel
theorem dX1_become_16 : decode cX1_become 16 = .ok (.iconst (-1), 1) := by decide +kernel
theorem dX1_become_17 : decode cX1_become 17 = .ok (.putfield 9, 3) := by decide +kernel
theorem dX1_become_20 : decode cX1_become 20 = .ok (.aload_n 0, 1) := by decide +kernel
theorem dX1_become_21 : decode cX1_become 21 = .ok (.iconst (-1), 1) := by decide +kernel
theorem dX1_become_22 : decode cX1_become 22 = .ok (.putfield 15, 3) := by decide +kernel
theorem dX1_become_25 : decode cX1_become 25 = .ok (.return_, 1) := by decide +kernel
theorem dX1_becomeCounted_0 : decode cX1_becomeCounted 0 = .ok (.aload_n 0, 1) := by decide +kernel
theorem dX1_becomeCounted_1 : decode cX1_becomeCounted 1 = .ok (.iload_n 1, 1) := by decide +kernel
theorem dX1_becomeCounted_2 : decode cX1_becomeCounted 2 = .ok (.iload_n 1, 1) := by decide +kernel
theorem dX1_becomeCounted_3 : decode cX1_becomeCounted 3 = .ok (.bipush 10, 2) := by decide +kernel
theorem dX1_becomeCounted_5 : decode cX1_becomeCounted 5 = .ok (.irem, 1) := by decide +kernel
theorem dX1_becomeCounted_6 : decode cX1_becomeCounted 6 = .ok (.iload_n 1, 1) := by decide +kernel
theorem dX1_becomeCounted_7 : decode cX1_becomeCounted 7 = .ok (.bipush 10, 2) := by decide +kernel
theorem dX1_becomeCounted_9 : decode cX1_becomeCounted 9 = .ok (.idiv, 1) := by decide +kernel
theorem dX1_becomeCounted_10 : decode cX1_becomeCounted 10 = .ok (.bipush 10, 2) := by decide +kernel
theorem dX1_becomeCounted_12 : decode cX1_becomeCounted 12 = .ok (.irem, 1) := by decide +kernel
theorem dX1_becomeCounted_13 : decode cX1_becomeCounted 13 = .ok (.invokevirtual 27, 3) := by decide +kernel
theorem dX1_becomeCounted_16 : decode cX1_becomeCounted 16 = .ok (.return_, 1) := by decide +kernel
theorem dX1_supposeTurned_0 : decode cX1_supposeTurned 0 = .ok (.aload_n 0, 1) := by decide +kernel
theorem dX1_supposeTurned_1 : decode cX1_supposeTurned 1 = .ok (.iload_n 1, 1) := by decide +kernel
theorem dX1_supposeTurned_2 : decode cX1_supposeTurned 2 = .ok (.putfield 9, 3) := by decide +kernel
theorem dX1_supposeTurned_5 : decode cX1_supposeTurned 5 = .ok (.return_, 1) := by decide +kernel
theorem dX1_supposeRamp_0 : decode cX1_supposeRamp 0 = .ok (.aload_n 0, 1) := by decide +kernel
theorem dX1_supposeRamp_1 : decode cX1_supposeRamp 1 = .ok (.iload_n 1, 1) := by decide +kernel
theorem dX1_supposeRamp_2 : decode cX1_supposeRamp 2 = .ok (.putfield 15, 3) := by decide +kernel
theorem dX1_supposeRamp_5 : decode cX1_supposeRamp 5 = .ok (.aload_n 0, 1) := by decide +kernel
theorem dX1_supposeRamp_6 : decode cX1_supposeRamp 6 = .ok (.iload_n 2, 1) := by decide +kernel
theorem dX1_supposeRamp_7 : decode cX1_supposeRamp 7 = .ok (.putfield 31, 3) := by decide +kernel
theorem dX1_supposeRamp_10 : decode cX1_supposeRamp 10 = .ok (.return_, 1) := by decide +kernel
theorem dX1_findsOn_0 : decode cX1_findsOn 0 = .ok (.aload_n 1, 1) := by decide +kernel
theorem dX1_findsOn_1 : decode cX1_findsOn 1 = .ok (.getfield 34, 3) := by decide +kernel
theorem dX1_findsOn_4 : decode cX1_findsOn 4 = .ok (.aload_n 1, 1) := by decide +kernel
theorem dX1_findsOn_5 : decode cX1_findsOn 5 = .ok (.getfield 40, 3) := by decide +kernel
theorem dX1_findsOn_8 : decode cX1_findsOn 8 = .ok (.aload_n 0, 1) := by decide +kernel
theorem dX1_findsOn_9 : decode cX1_findsOn 9 = .ok (.getfield 9, 3) := by decide +kernel
theorem dX1_findsOn_12 : decode cX1_findsOn 12 = .ok (.if_icmp .ne 7, 3) := by decide +kernel
theorem dX1_findsOn_15 : decode cX1_findsOn 15 = .ok (.iconst 1, 1) := by decide +kernel
theorem dX1_findsOn_16 : decode cX1_findsOn 16 = .ok (.goto 4, 3) := by decide +kernel
theorem dX1_findsOn_19 : decode cX1_findsOn 19 = .ok (.iconst 0, 1) := by decide +kernel
theorem dX1_findsOn_20 : decode cX1_findsOn 20 = .ok (.if_icmp .eq 7, 3) := by decide +kernel
theorem dX1_findsOn_23 : decode cX1_findsOn 23 = .ok (.iconst 1, 1) := by decide +kernel
theorem dX1_findsOn_24 : decode cX1_findsOn 24 = .ok (.goto 4, 3) := by decide +kernel
theorem dX1_findsOn_27 : decode cX1_findsOn 27 = .ok (.iconst 0, 1) := by decide +kernel
theorem dX1_findsOn_28 : decode cX1_findsOn 28 = .ok (.ireturn, 1) := by decide +kernel
theorem dX1_findsFar_0 : decode cX1_findsFar 0 = .ok (.aload_n 1, 1) := by decide +kernel
theorem dX1_findsFar_1 : decode cX1_findsFar 1 = .ok (.getfield 40, 3) := by decide +kernel
theorem dX1_findsFar_4 : decode cX1_findsFar 4 = .ok (.aload_n 0, 1) := by decide +kernel
theorem dX1_findsFar_5 : decode cX1_findsFar 5 = .ok (.getfield 15, 3) := by decide +kernel
theorem dX1_findsFar_8 : decode cX1_findsFar 8 = .ok (.if_icmp .ne 10, 3) := by decide +kernel
theorem dX1_findsFar_11 : decode cX1_findsFar 11 = .ok (.aload_n 0, 1) := by decide +kernel
theorem dX1_findsFar_12 : decode cX1_findsFar 12 = .ok (.getfield 31, 3) := by decide +kernel
theorem dX1_findsFar_15 : decode cX1_findsFar 15 = .ok (.goto 8, 3) := by decide +kernel
theorem dX1_findsFar_18 : decode cX1_findsFar 18 = .ok (.aload_n 1, 1) := by decide +kernel
theorem dX1_findsFar_19 : decode cX1_findsFar 19 = .ok (.iload_n 2, 1) := by decide +kernel
theorem dX1_findsFar_20 : decode cX1_findsFar 20 = .ok (.invokevirtual 43, 3) := by decide +kernel
theorem dX1_findsFar_23 : decode cX1_findsFar 23 = .ok (.ireturn, 1) := by decide +kernel
theorem dX2_init_0 : decode cX2_init 0 = .ok (.aload_n 0, 1) := by decide +kernel
theorem dX2_init_1 : decode cX2_init 1 = .ok (.invokespecial 3, 3) := by decide +kernel
theorem dX2_init_4 : decode cX2_init 4 = .ok (.aload_n 0, 1) := by decide +kernel
theorem dX2_init_5 : decode cX2_init 5 = .ok (.iload_n 1, 1) := by decide +kernel
theorem dX2_init_6 : decode cX2_init 6 = .ok (.putfield 9, 3) := by decide +kernel
theorem dX2_init_9 : decode cX2_init 9 = .ok (.aload_n 0, 1) := by decide +kernel
theorem dX2_init_10 : decode cX2_init 10 = .ok (.iload_n 2, 1) := by decide +kernel
theorem dX2_init_11 : decode cX2_init 11 = .ok (.putfield 15, 3) := by decide +kernel
theorem dX2_init_14 : decode cX2_init 14 = .ok (.aload_n 0, 1) := by decide +kernel
theorem dX2_init_15 : decode cX2_init 15 = .ok (.iload_n 3, 1) := by decide +kernel
theorem dX2_init_16 : decode cX2_init 16 = .ok (.putfield 18, 3) := by decide +kernel
theorem dX2_init_19 : decode cX2_init 19 = .ok (.aload_n 0, 1) := by decide +kernel
theorem dX2_init_20 : decode cX2_init 20 = .ok (.iload 4, 2) := by decide +kernel
theorem dX2_init_22 : decode cX2_init 22 = .ok (.putfield 21, 3) := by decide +kernel
theorem dX2_init_25 : decode cX2_init 25 = .ok (.return_, 1) := by decide +kernel
theorem dX2_isMetBy_0 : decode cX2_isMetBy 0 = .ok (.aload_n 0, 1) := by decide +kernel
theorem dX2_isMetBy_1 : decode cX2_isMetBy 1 = .ok (.getfield 9, 3) := by decide +kernel
theorem dX2_isMetBy_4 : decode cX2_isMetBy 4 = .ok (.ifCond .ne 7, 3) := by decide +kernel
theorem dX2_isMetBy_7 : decode cX2_isMetBy 7 = .ok (.iload_n 1, 1) := by decide +kernel
theorem dX2_isMetBy_8 : decode cX2_isMetBy 8 = .ok (.goto 4, 3) := by decide +kernel
theorem dX2_isMetBy_11 : decode cX2_isMetBy 11 = .ok (.iload_n 2, 1) := by decide +kernel
theorem dX2_isMetBy_12 : decode cX2_isMetBy 12 = .ok (.istore_n 3, 1) := by decide +kernel
theorem dX2_isMetBy_13 : decode cX2_isMetBy 13 = .ok (.aload_n 0, 1) := by decide +kernel
theorem dX2_isMetBy_14 : decode cX2_isMetBy 14 = .ok (.getfield 15, 3) := by decide +kernel
theorem dX2_isMetBy_17 : decode cX2_isMetBy 17 = .ok (.iconst 1, 1) := by decide +kernel
theorem dX2_isMetBy_18 : decode cX2_isMetBy 18 = .ok (.if_icmp .ne 17, 3) := by decide +kernel
theorem dX2_isMetBy_21 : decode cX2_isMetBy 21 = .ok (.iload_n 3, 1) := by decide +kernel
theorem dX2_isMetBy_22 : decode cX2_isMetBy 22 = .ok (.aload_n 0, 1) := by decide +kernel
theorem dX2_isMetBy_23 : decode cX2_isMetBy 23 = .ok (.getfield 18, 3) := by decide +kernel
theorem dX2_isMetBy_26 : decode cX2_isMetBy 26 = .ok (.if_icmp .ge 7, 3) := by decide +kernel
theorem dX2_isMetBy_29 : decode cX2_isMetBy 29 = .ok (.iconst 1, 1) := by decide +kernel
theorem dX2_isMetBy_30 : decode cX2_isMetBy 30 = .ok (.goto 4, 3) := by decide +kernel
theorem dX2_isMetBy_33 : decode cX2_isMetBy 33 = .ok (.iconst 0, 1) := by decide +kernel
theorem dX2_isMetBy_34 : decode cX2_isMetBy 34 = .ok (.ireturn, 1) := by decide +kernel
theorem dX2_isMetBy_35 : decode cX2_isMetBy 35 = .ok (.aload_n 0, 1) := by decide +kernel
theorem dX2_isMetBy_36 : decode cX2_isMetBy 36 = .ok (.getfield 15, 3) := by decide +kernel
theorem dX2_isMetBy_39 : decode cX2_isMetBy 39 = .ok (.iconst 2, 1) := by decide +kernel
theorem dX2_isMetBy_40 : decode cX2_isMetBy 40 = .ok (.if_icmp .ne 19, 3) := by decide +kernel
theorem dX2_isMetBy_43 : decode cX2_isMetBy 43 = .ok (.iload_n 3, 1) := by decide +kernel
theorem dX2_isMetBy_44 : decode cX2_isMetBy 44 = .ok (.aload_n 0, 1) := by decide +kernel
theorem dX2_isMetBy_45 : decode cX2_isMetBy 45 = .ok (.getfield 18, 3) := by decide +kernel
theorem dX2_isMetBy_48 : decode cX2_isMetBy 48 = .ok (.if_icmp .ne 7, 3) := by decide +kernel
theorem dX2_isMetBy_51 : decode cX2_isMetBy 51 = .ok (.iconst 1, 1) := by decide +kernel
theorem dX2_isMetBy_52 : decode cX2_isMetBy 52 = .ok (.goto 20, 3) := by decide +kernel
theorem dX2_isMetBy_55 : decode cX2_isMetBy 55 = .ok (.iconst 0, 1) := by decide +kernel
theorem dX2_isMetBy_56 : decode cX2_isMetBy 56 = .ok (.goto 16, 3) := by decide +kernel
theorem dX2_isMetBy_59 : decode cX2_isMetBy 59 = .ok (.iload_n 3, 1) := by decide +kernel
theorem dX2_isMetBy_60 : decode cX2_isMetBy 60 = .ok (.aload_n 0, 1) := by decide +kernel
theorem dX2_isMetBy_61 : decode cX2_isMetBy 61 = .ok (.getfield 18, 3) := by decide +kernel
theorem dX2_isMetBy_64 : decode cX2_isMetBy 64 = .ok (.if_icmp .le 7, 3) := by decide +kernel
theorem dX2_isMetBy_67 : decode cX2_isMetBy 67 = .ok (.iconst 1, 1) := by decide +kernel
theorem dX2_isMetBy_68 : decode cX2_isMetBy 68 = .ok (.goto 4, 3) := by decide +kernel
theorem dX2_isMetBy_71 : decode cX2_isMetBy 71 = .ok (.iconst 0, 1) := by decide +kernel
theorem dX2_isMetBy_72 : decode cX2_isMetBy 72 = .ok (.ireturn, 1) := by decide +kernel
theorem dX3_init_0 : decode cX3_init 0 = .ok (.aload_n 0, 1) := by decide +kernel
theorem dX3_init_1 : decode cX3_init 1 = .ok (.invokespecial 3, 3) := by decide +kernel
theorem dX3_init_4 : decode cX3_init 4 = .ok (.aload_n 0, 1) := by decide +kernel
theorem dX3_init_5 : decode cX3_init 5 = .ok (.iconst 4, 1) := by decide +kernel
theorem dX3_init_6 : decode cX3_init 6 = .ok (.newarray .int, 2) := by decide +kernel
theorem dX3_init_8 : decode cX3_init 8 = .ok (.putfield 9, 3) := by decide +kernel
theorem dX3_init_11 : decode cX3_init 11 = .ok (.aload_n 0, 1) := by decide +kernel
theorem dX3_init_12 : decode cX3_init 12 = .ok (.iconst 5, 1) := by decide +kernel
theorem dX3_init_13 : decode cX3_init 13 = .ok (.anewarray 15, 3) := by decide +kernel
theorem dX3_init_16 : decode cX3_init 16 = .ok (.putfield 17, 3) := by decide +kernel
theorem dX3_init_19 : decode cX3_init 19 = .ok (.aload_n 0, 1) := by decide +kernel
theorem dX3_init_20 : decode cX3_init 20 = .ok (.new 21, 3) := by decide +kernel
theorem dX3_init_23 : decode cX3_init 23 = .ok (.dup, 1) := by decide +kernel
theorem dX3_init_24 : decode cX3_init 24 = .ok (.invokespecial 23, 3) := by decide +kernel
theorem dX3_init_27 : decode cX3_init 27 = .ok (.putfield 24, 3) := by decide +kernel
theorem dX3_init_30 : decode cX3_init 30 = .ok (.aload_n 0, 1) := by decide +kernel
theorem dX3_init_31 : decode cX3_init 31 = .ok (.sipush 1000, 3) := by decide +kernel
theorem dX3_init_34 : decode cX3_init 34 = .ok (.putfield 28, 3) := by decide +kernel
theorem dX3_init_37 : decode cX3_init 37 = .ok (.aload_n 0, 1) := by decide +kernel
theorem dX3_init_38 : decode cX3_init 38 = .ok (.iconst (-1), 1) := by decide +kernel
theorem dX3_init_39 : decode cX3_init 39 = .ok (.putfield 32, 3) := by decide +kernel
theorem dX3_init_42 : decode cX3_init 42 = .ok (.aload_n 0, 1) := by decide +kernel
theorem dX3_init_43 : decode cX3_init 43 = .ok (.iconst (-1), 1) := by decide +kernel
theorem dX3_init_44 : decode cX3_init 44 = .ok (.putfield 35, 3) := by decide +kernel
theorem dX3_init_47 : decode cX3_init 47 = .ok (.aload_n 0, 1) := by decide +kernel
theorem dX3_init_48 : decode cX3_init 48 = .ok (.iload_n 1, 1) := by decide +kernel
theorem dX3_init_49 : decode cX3_init 49 = .ok (.putfield 38, 3) := by decide +kernel
theorem dX3_init_52 : decode cX3_init 52 = .ok (.aload_n 0, 1) := by decide +kernel
theorem dX3_init_53 : decode cX3_init 53 = .ok (.iload_n 2, 1) := by decide +kernel
theorem dX3_init_54 : decode cX3_init 54 = .ok (.putfield 41, 3) := by decide +kernel
theorem dX3_init_57 : decode cX3_init 57 = .ok (.aload_n 0, 1) := by decide +kernel
theorem dX3_init_58 : decode cX3_init 58 = .ok (.iload_n 3, 1) := by decide +kernel
theorem dX3_init_59 : decode cX3_init 59 = .ok (.putfield 44, 3) := by decide +kernel
theorem dX3_init_62 : decode cX3_init 62 = .ok (.aload_n 0, 1) := by decide +kernel
theorem dX3_init_63 : decode cX3_init 63 = .ok (.iload 4, 2) := by decide +kernel
theorem dX3_init_65 : decode cX3_init 65 = .ok (.putfield 47, 3) := by decide +kernel
theorem dX3_init_68 : decode cX3_init 68 = .ok (.aload_n 0, 1) := by decide +kernel
theorem dX3_init_69 : decode cX3_init 69 = .ok (.getfield 9, 3) := by decide +kernel
theorem dX3_init_72 : decode cX3_init 72 = .ok (.iconst 0, 1) := by decide +kernel
theorem dX3_init_73 : decode cX3_init 73 = .ok (.sipush 1000, 3) := by decide +kernel
theorem dX3_init_76 : decode cX3_init 76 = .ok (.iastore, 1) := by decide +kernel
theorem dX3_init_77 : decode cX3_init 77 = .ok (.return_, 1) := by decide +kernel
theorem dX3_weightOf_0 : decode cX3_weightOf 0 = .ok (.iload_n 1, 1) := by decide +kernel
theorem dX3_weightOf_1 : decode cX3_weightOf 1 = .ok (.ifCond .lt 12, 3) := by decide +kernel
theorem dX3_weightOf_4 : decode cX3_weightOf 4 = .ok (.iload_n 1, 1) := by decide +kernel
theorem dX3_weightOf_5 : decode cX3_weightOf 5 = .ok (.aload_n 0, 1) := by decide +kernel
theorem dX3_weightOf_6 : decode cX3_weightOf 6 = .ok (.getfield 9, 3) := by decide +kernel
theorem dX3_weightOf_9 : decode cX3_weightOf 9 = .ok (.arraylength, 1) := by decide +kernel
theorem dX3_weightOf_10 : decode cX3_weightOf 10 = .ok (.if_icmp .lt 7, 3) := by decide +kernel
theorem dX3_weightOf_13 : decode cX3_weightOf 13 = .ok (.iconst 0, 1) := by decide +kernel
theorem dX3_weightOf_14 : decode cX3_weightOf 14 = .ok (.goto 9, 3) := by decide +kernel
theorem dX3_weightOf_17 : decode cX3_weightOf 17 = .ok (.aload_n 0, 1) := by decide +kernel
theorem dX3_weightOf_18 : decode cX3_weightOf 18 = .ok (.getfield 9, 3) := by decide +kernel
theorem dX3_weightOf_21 : decode cX3_weightOf 21 = .ok (.iload_n 1, 1) := by decide +kernel
theorem dX3_weightOf_22 : decode cX3_weightOf 22 = .ok (.iaload, 1) := by decide +kernel
theorem dX3_weightOf_23 : decode cX3_weightOf 23 = .ok (.ireturn, 1) := by decide +kernel
theorem dX3_setWeight_0 : decode cX3_setWeight 0 = .ok (.iload_n 1, 1) := by decide +kernel
theorem dX3_setWeight_1 : decode cX3_setWeight 1 = .ok (.ifCond .lt 19, 3) := by decide +kernel
theorem dX3_setWeight_4 : decode cX3_setWeight 4 = .ok (.iload_n 1, 1) := by decide +kernel
theorem dX3_setWeight_5 : decode cX3_setWeight 5 = .ok (.aload_n 0, 1) := by decide +kernel
theorem dX3_setWeight_6 : decode cX3_setWeight 6 = .ok (.getfield 9, 3) := by decide +kernel
theorem dX3_setWeight_9 : decode cX3_setWeight 9 = .ok (.arraylength, 1) := by decide +kernel
theorem dX3_setWeight_10 : decode cX3_setWeight 10 = .ok (.if_icmp .ge 10, 3) := by decide +kernel
theorem dX3_setWeight_13 : decode cX3_setWeight 13 = .ok (.aload_n 0, 1) := by decide +kernel
theorem dX3_setWeight_14 : decode cX3_setWeight 14 = .ok (.getfield 9, 3) := by decide +kernel
theorem dX3_setWeight_17 : decode cX3_setWeight 17 = .ok (.iload_n 1, 1) := by decide +kernel
theorem dX3_setWeight_18 : decode cX3_setWeight 18 = .ok (.iload_n 2, 1) := by decide +kernel
theorem dX3_setWeight_19 : decode cX3_setWeight 19 = .ok (.iastore, 1) := by decide +kernel
theorem dX3_setWeight_20 : decode cX3_setWeight 20 = .ok (.return_, 1) := by decide +kernel
theorem dX3_splitBy_0 : decode cX3_splitBy 0 = .ok (.iconst 0, 1) := by decide +kernel
theorem dX3_splitBy_1 : decode cX3_splitBy 1 = .ok (.istore_n 2, 1) := by decide +kernel
theorem dX3_splitBy_2 : decode cX3_splitBy 2 = .ok (.iconst 0, 1) := by decide +kernel
theorem dX3_splitBy_3 : decode cX3_splitBy 3 = .ok (.istore_n 3, 1) := by decide +kernel
theorem dX3_splitBy_4 : decode cX3_splitBy 4 = .ok (.iload_n 3, 1) := by decide +kernel
theorem dX3_splitBy_5 : decode cX3_splitBy 5 = .ok (.aload_n 0, 1) := by decide +kernel
theorem dX3_splitBy_6 : decode cX3_splitBy 6 = .ok (.getfield 9, 3) := by decide +kernel
theorem dX3_splitBy_9 : decode cX3_splitBy 9 = .ok (.arraylength, 1) := by decide +kernel
theorem dX3_splitBy_10 : decode cX3_splitBy 10 = .ok (.if_icmp .ge 25, 3) := by decide +kernel
theorem dX3_splitBy_13 : decode cX3_splitBy 13 = .ok (.iload_n 2, 1) := by decide +kernel
theorem dX3_splitBy_14 : decode cX3_splitBy 14 = .ok (.aload_n 0, 1) := by decide +kernel
theorem dX3_splitBy_15 : decode cX3_splitBy 15 = .ok (.getfield 9, 3) := by decide +kernel
theorem dX3_splitBy_18 : decode cX3_splitBy 18 = .ok (.iload_n 3, 1) := by decide +kernel
theorem dX3_splitBy_19 : decode cX3_splitBy 19 = .ok (.iaload, 1) := by decide +kernel
theorem dX3_splitBy_20 : decode cX3_splitBy 20 = .ok (.iadd, 1) := by decide +kernel
theorem dX3_splitBy_21 : decode cX3_splitBy 21 = .ok (.istore_n 2, 1) := by decide +kernel
theorem dX3_splitBy_22 : decode cX3_splitBy 22 = .ok (.iload_n 1, 1) := by decide +kernel
theorem dX3_splitBy_23 : decode cX3_splitBy 23 = .ok (.iload_n 2, 1) := by decide +kernel
theorem dX3_splitBy_24 : decode cX3_splitBy 24 = .ok (.if_icmp .ge 5, 3) := by decide +kernel
theorem dX3_splitBy_27 : decode cX3_splitBy 27 = .ok (.iload_n 3, 1) := by decide +kernel
theorem dX3_splitBy_28 : decode cX3_splitBy 28 = .ok (.ireturn, 1) := by decide +kernel
theorem dX3_splitBy_29 : decode cX3_splitBy 29 = .ok (.iinc 3 1, 3) := by decide +kernel
theorem dX3_splitBy_32 : decode cX3_splitBy 32 = .ok (.goto (-28), 3) := by decide +kernel
theorem dX3_splitBy_35 : decode cX3_splitBy 35 = .ok (.iconst 0, 1) := by decide +kernel
theorem dX3_splitBy_36 : decode cX3_splitBy 36 = .ok (.ireturn, 1) := by decide +kernel
theorem dX3_setRamp_0 : decode cX3_setRamp 0 = .ok (.aload_n 0, 1) := by decide +kernel
theorem dX3_setRamp_1 : decode cX3_setRamp 1 = .ok (.iload_n 1, 1) := by decide +kernel
theorem dX3_setRamp_2 : decode cX3_setRamp 2 = .ok (.putfield 28, 3) := by decide +kernel
theorem dX3_setRamp_5 : decode cX3_setRamp 5 = .ok (.aload_n 0, 1) := by decide +kernel
theorem dX3_setRamp_6 : decode cX3_setRamp 6 = .ok (.iload_n 2, 1) := by decide +kernel
theorem dX3_setRamp_7 : decode cX3_setRamp 7 = .ok (.putfield 51, 3) := by decide +kernel
theorem dX3_setRamp_10 : decode cX3_setRamp 10 = .ok (.aload_n 0, 1) := by decide +kernel
theorem dX3_setRamp_11 : decode cX3_setRamp 11 = .ok (.iload_n 3, 1) := by decide +kernel
theorem dX3_setRamp_12 : decode cX3_setRamp 12 = .ok (.putfield 54, 3) := by decide +kernel
theorem dX3_setRamp_15 : decode cX3_setRamp 15 = .ok (.return_, 1) := by decide +kernel
theorem dX3_farAt_0 : decode cX3_farAt 0 = .ok (.aload_n 0, 1) := by decide +kernel
theorem dX3_farAt_1 : decode cX3_farAt 1 = .ok (.getfield 28, 3) := by decide +kernel
theorem dX3_farAt_4 : decode cX3_farAt 4 = .ok (.i2l, 1) := by decide +kernel
theorem dX3_farAt_5 : decode cX3_farAt 5 = .ok (.aload_n 0, 1) := by decide +kernel
theorem dX3_farAt_6 : decode cX3_farAt 6 = .ok (.getfield 51, 3) := by decide +kernel
theorem dX3_farAt_9 : decode cX3_farAt 9 = .ok (.i2l, 1) := by decide +kernel
theorem dX3_farAt_10 : decode cX3_farAt 10 = .ok (.iload_n 1, 1) := by decide +kernel
theorem dX3_farAt_11 : decode cX3_farAt 11 = .ok (.aload_n 0, 1) := by decide +kernel
theorem dX3_farAt_12 : decode cX3_farAt 12 = .ok (.getfield 54, 3) := by decide +kernel
theorem dX3_farAt_15 : decode cX3_farAt 15 = .ok (.isub, 1) := by decide +kernel
theorem dX3_farAt_16 : decode cX3_farAt 16 = .ok (.i2l, 1) := by decide +kernel
theorem dX3_farAt_17 : decode cX3_farAt 17 = .ok (.lmul, 1) := by decide +kernel
theorem dX3_farAt_18 : decode cX3_farAt 18 = .ok (.ladd, 1) := by decide +kernel
theorem dX3_farAt_19 : decode cX3_farAt 19 = .ok (.lstore_n 2, 1) := by decide +kernel
theorem dX3_farAt_20 : decode cX3_farAt 20 = .ok (.lload_n 2, 1) := by decide +kernel
theorem dX3_farAt_21 : decode cX3_farAt 21 = .ok (.ldc2_w 57, 3) := by decide +kernel
theorem dX3_farAt_24 : decode cX3_farAt 24 = .ok (.lcmp, 1) := by decide +kernel
theorem dX3_farAt_25 : decode cX3_farAt 25 = .ok (.ifCond .le 9, 3) := by decide +kernel
theorem dX3_farAt_28 : decode cX3_farAt 28 = .ok (.sipush 1000, 3) := by decide +kernel
theorem dX3_farAt_31 : decode cX3_farAt 31 = .ok (.goto 5, 3) := by decide +kernel
theorem dX3_farAt_34 : decode cX3_farAt 34 = .ok (.lload_n 2, 1) := by decide +kernel
theorem dX3_farAt_35 : decode cX3_farAt 35 = .ok (.l2i, 1) := by decide +kernel
theorem dX3_farAt_36 : decode cX3_farAt 36 = .ok (.ireturn, 1) := by decide +kernel
theorem dX3_sharesRange_0 : decode cX3_sharesRange 0 = .ok (.aload_n 0, 1) := by decide +kernel
theorem dX3_sharesRange_1 : decode cX3_sharesRange 1 = .ok (.getfield 59, 3) := by decide +kernel
theorem dX3_sharesRange_4 : decode cX3_sharesRange 4 = .ok (.iload_n 1, 1) := by decide +kernel
theorem dX3_sharesRange_5 : decode cX3_sharesRange 5 = .ok (.invokestatic 62, 3) := by decide +kernel
theorem dX3_sharesRange_8 : decode cX3_sharesRange 8 = .ok (.aload_n 0, 1) := by decide +kernel
theorem dX3_sharesRange_9 : decode cX3_sharesRange 9 = .ok (.getfield 68, 3) := by decide +kernel
theorem dX3_sharesRange_12 : decode cX3_sharesRange 12 = .ok (.iload_n 2, 1) := by decide +kernel
theorem dX3_sharesRange_13 : decode cX3_sharesRange 13 = .ok (.invokestatic 71, 3) := by decide +kernel
theorem dX3_sharesRange_16 : decode cX3_sharesRange 16 = .ok (.if_icmp .ge 7, 3) := by decide +kernel
theorem dX3_sharesRange_19 : decode cX3_sharesRange 19 = .ok (.iconst 1, 1) := by decide +kernel
theorem dX3_sharesRange_20 : decode cX3_sharesRange 20 = .ok (.goto 4, 3) := by decide +kernel
theorem dX3_sharesRange_23 : decode cX3_sharesRange 23 = .ok (.iconst 0, 1) := by decide +kernel
theorem dX3_sharesRange_24 : decode cX3_sharesRange 24 = .ok (.ireturn, 1) := by decide +kernel
theorem dX3_ruleAt_0 : decode cX3_ruleAt 0 = .ok (.iload_n 1, 1) := by decide +kernel
theorem dX3_ruleAt_1 : decode cX3_ruleAt 1 = .ok (.ifCond .lt 12, 3) := by decide +kernel
theorem dX3_ruleAt_4 : decode cX3_ruleAt 4 = .ok (.iload_n 1, 1) := by decide +kernel
theorem dX3_ruleAt_5 : decode cX3_ruleAt 5 = .ok (.aload_n 0, 1) := by decide +kernel
theorem dX3_ruleAt_6 : decode cX3_ruleAt 6 = .ok (.getfield 17, 3) := by decide +kernel
theorem dX3_ruleAt_9 : decode cX3_ruleAt 9 = .ok (.arraylength, 1) := by decide +kernel
theorem dX3_ruleAt_10 : decode cX3_ruleAt 10 = .ok (.if_icmp .lt 7, 3) := by decide +kernel
theorem dX3_ruleAt_13 : decode cX3_ruleAt 13 = .ok (.aconst_null, 1) := by decide +kernel
theorem dX3_ruleAt_14 : decode cX3_ruleAt 14 = .ok (.goto 9, 3) := by decide +kernel
theorem dX3_ruleAt_17 : decode cX3_ruleAt 17 = .ok (.aload_n 0, 1) := by decide +kernel
theorem dX3_ruleAt_18 : decode cX3_ruleAt 18 = .ok (.getfield 17, 3) := by decide +kernel
theorem dX3_ruleAt_21 : decode cX3_ruleAt 21 = .ok (.iload_n 1, 1) := by decide +kernel
theorem dX3_ruleAt_22 : decode cX3_ruleAt 22 = .ok (.aaload, 1) := by decide +kernel
theorem dX3_ruleAt_23 : decode cX3_ruleAt 23 = .ok (.areturn, 1) := by decide +kernel
theorem dX3_addRule_0 : decode cX3_addRule 0 = .ok (.aload_n 0, 1) := by decide +kernel
theorem dX3_addRule_1 : decode cX3_addRule 1 = .ok (.getfield 74, 3) := by decide +kernel
theorem dX3_addRule_4 : decode cX3_addRule 4 = .ok (.ifCond .lt 35, 3) := by decide +kernel
theorem dX3_addRule_7 : decode cX3_addRule 7 = .ok (.aload_n 0, 1) := by decide +kernel
theorem dX3_addRule_8 : decode cX3_addRule 8 = .ok (.getfield 74, 3) := by decide +kernel
theorem dX3_addRule_11 : decode cX3_addRule 11 = .ok (.aload_n 0, 1) := by decide +kernel
theorem dX3_addRule_12 : decode cX3_addRule 12 = .ok (.getfield 17, 3) := by decide +kernel
theorem dX3_addRule_15 : decode cX3_addRule 15 = .ok (.arraylength, 1) := by decide +kernel
theorem dX3_addRule_16 : decode cX3_addRule 16 = .ok (.if_icmp .ge 23, 3) := by decide +kernel
theorem dX3_addRule_19 : decode cX3_addRule 19 = .ok (.aload_n 0, 1) := by decide +kernel
theorem dX3_addRule_20 : decode cX3_addRule 20 = .ok (.getfield 17, 3) := by decide +kernel
theorem dX3_addRule_23 : decode cX3_addRule 23 = .ok (.aload_n 0, 1) := by decide +kernel
theorem dX3_addRule_24 : decode cX3_addRule 24 = .ok (.getfield 74, 3) := by decide +kernel
theorem dX3_addRule_27 : decode cX3_addRule 27 = .ok (.aload_n 1, 1) := by decide +kernel
theorem dX3_addRule_28 : decode cX3_addRule 28 = .ok (.aastore, 1) := by decide +kernel
theorem dX3_addRule_29 : decode cX3_addRule 29 = .ok (.aload_n 0, 1) := by decide +kernel
theorem dX3_addRule_30 : decode cX3_addRule 30 = .ok (.dup, 1) := by decide +kernel
theorem dX3_addRule_31 : decode cX3_addRule 31 = .ok (.getfield 74, 3) := by decide +kernel
theorem dX3_addRule_34 : decode cX3_addRule 34 = .ok (.iconst 1, 1) := by decide +kernel
theorem dX3_addRule_35 : decode cX3_addRule 35 = .ok (.iadd, 1) := by decide +kernel
theorem dX3_addRule_36 : decode cX3_addRule 36 = .ok (.putfield 74, 3) := by decide +kernel
theorem dX3_addRule_39 : decode cX3_addRule 39 = .ok (.return_, 1) := by decide +kernel
theorem dX3_removeRule_0 : decode cX3_removeRule 0 = .ok (.iload_n 1, 1) := by decide +kernel
theorem dX3_removeRule_1 : decode cX3_removeRule 1 = .ok (.iconst 0, 1) := by decide +kernel
theorem dX3_removeRule_2 : decode cX3_removeRule 2 = .ok (.invokestatic 62, 3) := by decide +kernel
theorem dX3_removeRule_5 : decode cX3_removeRule 5 = .ok (.istore_n 2, 1) := by decide +kernel
theorem dX3_removeRule_6 : decode cX3_removeRule 6 = .ok (.iload_n 2, 1) := by decide +kernel
theorem dX3_removeRule_7 : decode cX3_removeRule 7 = .ok (.aload_n 0, 1) := by decide +kernel
theorem dX3_removeRule_8 : decode cX3_removeRule 8 = .ok (.getfield 17, 3) := by decide +kernel
theorem dX3_removeRule_11 : decode cX3_removeRule 11 = .ok (.arraylength, 1) := by decide +kernel
theorem dX3_removeRule_12 : decode cX3_removeRule 12 = .ok (.if_icmp .ge 22, 3) := by decide +kernel
theorem dX3_removeRule_15 : decode cX3_removeRule 15 = .ok (.aload_n 0, 1) := by decide +kernel
theorem dX3_removeRule_16 : decode cX3_removeRule 16 = .ok (.getfield 17, 3) := by decide +kernel
theorem dX3_removeRule_19 : decode cX3_removeRule 19 = .ok (.iload_n 2, 1) := by decide +kernel
theorem dX3_removeRule_20 : decode cX3_removeRule 20 = .ok (.aload_n 0, 1) := by decide +kernel
theorem dX3_removeRule_21 : decode cX3_removeRule 21 = .ok (.iload_n 2, 1) := by decide +kernel
theorem dX3_removeRule_22 : decode cX3_removeRule 22 = .ok (.iconst 1, 1) := by decide +kernel
theorem dX3_removeRule_23 : decode cX3_removeRule 23 = .ok (.iadd, 1) := by decide +kernel
theorem dX3_removeRule_24 : decode cX3_removeRule 24 = .ok (.invokevirtual 77, 3) := by decide +kernel
theorem dX3_removeRule_27 : decode cX3_removeRule 27 = .ok (.aastore, 1) := by decide +kernel
theorem dX3_removeRule_28 : decode cX3_removeRule 28 = .ok (.iinc 2 1, 3) := by decide +kernel
theorem dX3_removeRule_31 : decode cX3_removeRule 31 = .ok (.goto (-25), 3) := by decide +kernel
theorem dX3_removeRule_34 : decode cX3_removeRule 34 = .ok (.aload_n 0, 1) := by decide +kernel
theorem dX3_removeRule_35 : decode cX3_removeRule 35 = .ok (.dup, 1) := by decide +kernel
theorem dX3_removeRule_36 : decode cX3_removeRule 36 = .ok (.getfield 74, 3) := by decide +kernel
theorem dX3_removeRule_39 : decode cX3_removeRule 39 = .ok (.iconst 1, 1) := by decide +kernel
theorem dX3_removeRule_40 : decode cX3_removeRule 40 = .ok (.isub, 1) := by decide +kernel
theorem dX3_removeRule_41 : decode cX3_removeRule 41 = .ok (.putfield 74, 3) := by decide +kernel
theorem dX3_removeRule_44 : decode cX3_removeRule 44 = .ok (.return_, 1) := by decide +kernel
theorem dX3_firstRuleFor_0 : decode cX3_firstRuleFor 0 = .ok (.iconst 0, 1) := by decide +kernel
theorem dX3_firstRuleFor_1 : decode cX3_firstRuleFor 1 = .ok (.istore_n 3, 1) := by decide +kernel
theorem dX3_firstRuleFor_2 : decode cX3_firstRuleFor 2 = .ok (.iload_n 3, 1) := by decide +kernel
theorem dX3_firstRuleFor_3 : decode cX3_firstRuleFor 3 = .ok (.aload_n 0, 1) := by decide +kernel
theorem dX3_firstRuleFor_4 : decode cX3_firstRuleFor 4 = .ok (.getfield 17, 3) := by decide +kernel
theorem dX3_firstRuleFor_7 : decode cX3_firstRuleFor 7 = .ok (.arraylength, 1) := by decide +kernel
theorem dX3_firstRuleFor_8 : decode cX3_firstRuleFor 8 = .ok (.if_icmp .ge 34, 3) := by decide +kernel
theorem dX3_firstRuleFor_11 : decode cX3_firstRuleFor 11 = .ok (.aload_n 0, 1) := by decide +kernel
theorem dX3_firstRuleFor_12 : decode cX3_firstRuleFor 12 = .ok (.getfield 17, 3) := by decide +kernel
theorem dX3_firstRuleFor_15 : decode cX3_firstRuleFor 15 = .ok (.iload_n 3, 1) := by decide +kernel
theorem dX3_firstRuleFor_16 : decode cX3_firstRuleFor 16 = .ok (.aaload, 1) := by decide +kernel
theorem dX3_firstRuleFor_17 : decode cX3_firstRuleFor 17 = .ok (.astore 4, 2) := by decide +kernel
theorem dX3_firstRuleFor_19 : decode cX3_firstRuleFor 19 = .ok (.aload 4, 2) := by decide +kernel
theorem dX3_firstRuleFor_21 : decode cX3_firstRuleFor 21 = .ok (.ifnull 15, 3) := by decide +kernel
theorem dX3_firstRuleFor_24 : decode cX3_firstRuleFor 24 = .ok (.aload 4, 2) := by decide +kernel
theorem dX3_firstRuleFor_26 : decode cX3_firstRuleFor 26 = .ok (.iload_n 1, 1) := by decide +kernel
theorem dX3_firstRuleFor_27 : decode cX3_firstRuleFor 27 = .ok (.iload_n 2, 1) := by decide +kernel
theorem dX3_firstRuleFor_28 : decode cX3_firstRuleFor 28 = .ok (.invokevirtual 81, 3) := by decide +kernel
theorem dX3_firstRuleFor_31 : decode cX3_firstRuleFor 31 = .ok (.ifCond .eq 5, 3) := by decide +kernel
theorem dX3_firstRuleFor_34 : decode cX3_firstRuleFor 34 = .ok (.iload_n 3, 1) := by decide +kernel
theorem dX3_firstRuleFor_35 : decode cX3_firstRuleFor 35 = .ok (.ireturn, 1) := by decide +kernel
theorem dX3_firstRuleFor_36 : decode cX3_firstRuleFor 36 = .ok (.iinc 3 1, 3) := by decide +kernel
theorem dX3_firstRuleFor_39 : decode cX3_firstRuleFor 39 = .ok (.goto (-37), 3) := by decide +kernel
theorem dX3_firstRuleFor_42 : decode cX3_firstRuleFor 42 = .ok (.iconst (-1), 1) := by decide +kernel
theorem dX3_firstRuleFor_43 : decode cX3_firstRuleFor 43 = .ok (.ireturn, 1) := by decide +kernel
theorem dX3_armOf_0 : decode cX3_armOf 0 = .ok (.aload_n 0, 1) := by decide +kernel
theorem dX3_armOf_1 : decode cX3_armOf 1 = .ok (.getfield 85, 3) := by decide +kernel
theorem dX3_armOf_4 : decode cX3_armOf 4 = .ok (.astore_n 2, 1) := by decide +kernel
theorem dX3_armOf_5 : decode cX3_armOf 5 = .ok (.aload_n 2, 1) := by decide +kernel
theorem dX3_armOf_6 : decode cX3_armOf 6 = .ok (.ifnull 21, 3) := by decide +kernel
theorem dX3_armOf_9 : decode cX3_armOf 9 = .ok (.aload_n 2, 1) := by decide +kernel
theorem dX3_armOf_10 : decode cX3_armOf 10 = .ok (.getfield 89, 3) := by decide +kernel
theorem dX3_armOf_13 : decode cX3_armOf 13 = .ok (.iload_n 1, 1) := by decide +kernel
theorem dX3_armOf_14 : decode cX3_armOf 14 = .ok (.if_icmp .ne 5, 3) := by decide +kernel
theorem dX3_armOf_17 : decode cX3_armOf 17 = .ok (.aload_n 2, 1) := by decide +kernel
theorem dX3_armOf_18 : decode cX3_armOf 18 = .ok (.areturn, 1) := by decide +kernel
theorem dX3_armOf_19 : decode cX3_armOf 19 = .ok (.aload_n 2, 1) := by decide +kernel
theorem dX3_armOf_20 : decode cX3_armOf 20 = .ok (.getfield 94, 3) := by decide +kernel
theorem dX3_armOf_23 : decode cX3_armOf 23 = .ok (.astore_n 2, 1) := by decide +kernel
theorem dX3_armOf_24 : decode cX3_armOf 24 = .ok (.goto (-19), 3) := by decide +kernel
theorem dX3_armOf_27 : decode cX3_armOf 27 = .ok (.aconst_null, 1) := by decide +kernel
theorem dX3_armOf_28 : decode cX3_armOf 28 = .ok (.areturn, 1) := by decide +kernel
theorem dX3_addArm_0 : decode cX3_addArm 0 = .ok (.aload_n 0, 1) := by decide +kernel
theorem dX3_addArm_1 : decode cX3_addArm 1 = .ok (.new 90, 3) := by decide +kernel
theorem dX3_addArm_4 : decode cX3_addArm 4 = .ok (.dup, 1) := by decide +kernel
theorem dX3_addArm_5 : decode cX3_addArm 5 = .ok (.iload_n 1, 1) := by decide +kernel
theorem dX3_addArm_6 : decode cX3_addArm 6 = .ok (.iload_n 2, 1) := by decide +kernel
theorem dX3_addArm_7 : decode cX3_addArm 7 = .ok (.aload_n 0, 1) := by decide +kernel
theorem dX3_addArm_8 : decode cX3_addArm 8 = .ok (.getfield 85, 3) := by decide +kernel
theorem dX3_addArm_11 : decode cX3_addArm 11 = .ok (.invokespecial 97, 3) := by decide +kernel
theorem dX3_addArm_14 : decode cX3_addArm 14 = .ok (.putfield 85, 3) := by decide +kernel
theorem dX3_addArm_17 : decode cX3_addArm 17 = .ok (.aload_n 0, 1) := by decide +kernel
theorem dX3_addArm_18 : decode cX3_addArm 18 = .ok (.getfield 24, 3) := by decide +kernel
theorem dX3_addArm_21 : decode cX3_addArm 21 = .ok (.iload_n 2, 1) := by decide +kernel
theorem dX3_addArm_22 : decode cX3_addArm 22 = .ok (.invokevirtual 100, 3) := by decide +kernel
theorem dX3_addArm_25 : decode cX3_addArm 25 = .ok (.return_, 1) := by decide +kernel
theorem dX3_addWorth_0 : decode cX3_addWorth 0 = .ok (.aload_n 0, 1) := by decide +kernel
theorem dX3_addWorth_1 : decode cX3_addWorth 1 = .ok (.iload_n 1, 1) := by decide +kernel
theorem dX3_addWorth_2 : decode cX3_addWorth 2 = .ok (.invokevirtual 104, 3) := by decide +kernel
theorem dX3_addWorth_5 : decode cX3_addWorth 5 = .ok (.astore_n 3, 1) := by decide +kernel
theorem dX3_addWorth_6 : decode cX3_addWorth 6 = .ok (.aload_n 3, 1) := by decide +kernel
theorem dX3_addWorth_7 : decode cX3_addWorth 7 = .ok (.ifnonnull 5, 3) := by decide +kernel
theorem dX3_addWorth_10 : decode cX3_addWorth 10 = .ok (.iconst 0, 1) := by decide +kernel
theorem dX3_addWorth_11 : decode cX3_addWorth 11 = .ok (.ireturn, 1) := by decide +kernel
theorem dX3_addWorth_12 : decode cX3_addWorth 12 = .ok (.aload_n 0, 1) := by decide +kernel
theorem dX3_addWorth_13 : decode cX3_addWorth 13 = .ok (.getfield 24, 3) := by decide +kernel
theorem dX3_addWorth_16 : decode cX3_addWorth 16 = .ok (.aload_n 3, 1) := by decide +kernel
theorem dX3_addWorth_17 : decode cX3_addWorth 17 = .ok (.getfield 108, 3) := by decide +kernel
theorem dX3_addWorth_20 : decode cX3_addWorth 20 = .ok (.aload_n 3, 1) := by decide +kernel
theorem dX3_addWorth_21 : decode cX3_addWorth 21 = .ok (.getfield 111, 3) := by decide +kernel
theorem dX3_addWorth_24 : decode cX3_addWorth 24 = .ok (.i2l, 1) := by decide +kernel
theorem dX3_addWorth_25 : decode cX3_addWorth 25 = .ok (.iload_n 2, 1) := by decide +kernel
theorem dX3_addWorth_26 : decode cX3_addWorth 26 = .ok (.aload_n 3, 1) := by decide +kernel
theorem dX3_addWorth_27 : decode cX3_addWorth 27 = .ok (.getfield 114, 3) := by decide +kernel
theorem dX3_addWorth_30 : decode cX3_addWorth 30 = .ok (.ifCond .ne 7, 3) := by decide +kernel
theorem dX3_addWorth_33 : decode cX3_addWorth 33 = .ok (.iconst 1, 1) := by decide +kernel
theorem dX3_addWorth_34 : decode cX3_addWorth 34 = .ok (.goto 4, 3) := by decide +kernel
theorem dX3_addWorth_37 : decode cX3_addWorth 37 = .ok (.iconst 0, 1) := by decide +kernel
theorem dX3_addWorth_38 : decode cX3_addWorth 38 = .ok (.invokevirtual 117, 3) := by decide +kernel
theorem dX3_addWorth_41 : decode cX3_addWorth 41 = .ok (.aload_n 3, 1) := by decide +kernel
theorem dX3_addWorth_42 : decode cX3_addWorth 42 = .ok (.dup, 1) := by decide +kernel
theorem dX3_addWorth_43 : decode cX3_addWorth 43 = .ok (.getfield 111, 3) := by decide +kernel
theorem dX3_addWorth_46 : decode cX3_addWorth 46 = .ok (.iload_n 2, 1) := by decide +kernel
theorem dX3_addWorth_47 : decode cX3_addWorth 47 = .ok (.iadd, 1) := by decide +kernel
theorem dX3_addWorth_48 : decode cX3_addWorth 48 = .ok (.putfield 111, 3) := by decide +kernel
theorem dX3_addWorth_51 : decode cX3_addWorth 51 = .ok (.aload_n 3, 1) := by decide +kernel
theorem dX3_addWorth_52 : decode cX3_addWorth 52 = .ok (.iconst 1, 1) := by decide +kernel
theorem dX3_addWorth_53 : decode cX3_addWorth 53 = .ok (.putfield 114, 3) := by decide +kernel
theorem dX3_addWorth_56 : decode cX3_addWorth 56 = .ok (.iconst 1, 1) := by decide +kernel
theorem dX3_addWorth_57 : decode cX3_addWorth 57 = .ok (.ireturn, 1) := by decide +kernel
theorem dX3_badness_0 : decode cX3_badness 0 = .ok (.aload_n 0, 1) := by decide +kernel
theorem dX3_badness_1 : decode cX3_badness 1 = .ok (.getfield 24, 3) := by decide +kernel
theorem dX3_badness_4 : decode cX3_badness 4 = .ok (.getfield 121, 3) := by decide +kernel
theorem dX3_badness_7 : decode cX3_badness 7 = .ok (.i2l, 1) := by decide +kernel
theorem dX3_badness_8 : decode cX3_badness 8 = .ok (.lstore_n 1, 1) := by decide +kernel
theorem dX3_badness_9 : decode cX3_badness 9 = .ok (.lconst 0, 1) := by decide +kernel
theorem dX3_badness_10 : decode cX3_badness 10 = .ok (.lstore_n 3, 1) := by decide +kernel
theorem dX3_badness_11 : decode cX3_badness 11 = .ok (.iconst 0, 1) := by decide +kernel
theorem dX3_badness_12 : decode cX3_badness 12 = .ok (.istore 5, 2) := by decide +kernel
theorem dX3_badness_14 : decode cX3_badness 14 = .ok (.iload 5, 2) := by decide +kernel
theorem dX3_badness_16 : decode cX3_badness 16 = .ok (.aload_n 0, 1) := by decide +kernel
theorem dX3_badness_17 : decode cX3_badness 17 = .ok (.getfield 9, 3) := by decide +kernel
theorem dX3_badness_20 : decode cX3_badness 20 = .ok (.arraylength, 1) := by decide +kernel
theorem dX3_badness_21 : decode cX3_badness 21 = .ok (.if_icmp .ge 62, 3) := by decide +kernel
theorem dX3_badness_24 : decode cX3_badness 24 = .ok (.lload_n 1, 1) := by decide +kernel
theorem dX3_badness_25 : decode cX3_badness 25 = .ok (.aload_n 0, 1) := by decide +kernel
theorem dX3_badness_26 : decode cX3_badness 26 = .ok (.getfield 9, 3) := by decide +kernel
theorem dX3_badness_29 : decode cX3_badness 29 = .ok (.iload 5, 2) := by decide +kernel
theorem dX3_badness_31 : decode cX3_badness 31 = .ok (.iaload, 1) := by decide +kernel
theorem dX3_badness_32 : decode cX3_badness 32 = .ok (.i2l, 1) := by decide +kernel
theorem dX3_badness_33 : decode cX3_badness 33 = .ok (.lmul, 1) := by decide +kernel
theorem dX3_badness_34 : decode cX3_badness 34 = .ok (.lstore 6, 2) := by decide +kernel
theorem dX3_badness_36 : decode cX3_badness 36 = .ok (.lload 6, 2) := by decide +kernel
theorem dX3_badness_38 : decode cX3_badness 38 = .ok (.lconst 0, 1) := by decide +kernel
theorem dX3_badness_39 : decode cX3_badness 39 = .ok (.lcmp, 1) := by decide +kernel
theorem dX3_badness_40 : decode cX3_badness 40 = .ok (.ifCond .le 37, 3) := by decide +kernel
theorem dX3_badness_43 : decode cX3_badness 43 = .ok (.aload_n 0, 1) := by decide +kernel
theorem dX3_badness_44 : decode cX3_badness 44 = .ok (.getfield 24, 3) := by decide +kernel
theorem dX3_badness_47 : decode cX3_badness 47 = .ok (.iload 5, 2) := by decide +kernel
theorem dX3_badness_49 : decode cX3_badness 49 = .ok (.invokevirtual 124, 3) := by decide +kernel
theorem dX3_badness_52 : decode cX3_badness 52 = .ok (.i2l, 1) := by decide +kernel
theorem dX3_badness_53 : decode cX3_badness 53 = .ok (.ldc2_w 57, 3) := by decide +kernel
theorem dX3_badness_56 : decode cX3_badness 56 = .ok (.lmul, 1) := by decide +kernel
theorem dX3_badness_57 : decode cX3_badness 57 = .ok (.lload 6, 2) := by decide +kernel
theorem dX3_badness_59 : decode cX3_badness 59 = .ok (.lsub, 1) := by decide +kernel
theorem dX3_badness_60 : decode cX3_badness 60 = .ok (.lstore 8, 2) := by decide +kernel
theorem dX3_badness_62 : decode cX3_badness 62 = .ok (.lload_n 3, 1) := by decide +kernel
theorem dX3_badness_63 : decode cX3_badness 63 = .ok (.lload 8, 2) := by decide +kernel
theorem dX3_badness_65 : decode cX3_badness 65 = .ok (.lload 8, 2) := by decide +kernel
theorem dX3_badness_67 : decode cX3_badness 67 = .ok (.lmul, 1) := by decide +kernel
theorem dX3_badness_68 : decode cX3_badness 68 = .ok (.lload 6, 2) := by decide +kernel
theorem dX3_badness_70 : decode cX3_badness 70 = .ok (.ldc2_w 128, 3) := by decide +kernel
theorem dX3_badness_73 : decode cX3_badness 73 = .ok (.lmul, 1) := by decide +kernel
theorem dX3_badness_74 : decode cX3_badness 74 = .ok (.ldiv, 1) := by decide +kernel
theorem dX3_badness_75 : decode cX3_badness 75 = .ok (.ladd, 1) := by decide +kernel
theorem dX3_badness_76 : decode cX3_badness 76 = .ok (.lstore_n 3, 1) := by decide +kernel
theorem dX3_badness_77 : decode cX3_badness 77 = .ok (.iinc 5 1, 3) := by decide +kernel
theorem dX3_badness_80 : decode cX3_badness 80 = .ok (.goto (-66), 3) := by decide +kernel
theorem dX3_badness_83 : decode cX3_badness 83 = .ok (.lload_n 3, 1) := by decide +kernel
theorem dX3_badness_84 : decode cX3_badness 84 = .ok (.l2i, 1) := by decide +kernel
theorem dX3_badness_85 : decode cX3_badness 85 = .ok (.ireturn, 1) := by decide +kernel
theorem dX3_canBeTrusted_0 : decode cX3_canBeTrusted 0 = .ok (.iconst 0, 1) := by decide +kernel
theorem dX3_canBeTrusted_1 : decode cX3_canBeTrusted 1 = .ok (.istore_n 1, 1) := by decide +kernel
theorem dX3_canBeTrusted_2 : decode cX3_canBeTrusted 2 = .ok (.iconst 0, 1) := by decide +kernel
theorem dX3_canBeTrusted_3 : decode cX3_canBeTrusted 3 = .ok (.istore_n 2, 1) := by decide +kernel
theorem dX3_canBeTrusted_4 : decode cX3_canBeTrusted 4 = .ok (.iload_n 2, 1) := by decide +kernel
theorem dX3_canBeTrusted_5 : decode cX3_canBeTrusted 5 = .ok (.aload_n 0, 1) := by decide +kernel
theorem dX3_canBeTrusted_6 : decode cX3_canBeTrusted 6 = .ok (.getfield 9, 3) := by decide +kernel
theorem dX3_canBeTrusted_9 : decode cX3_canBeTrusted 9 = .ok (.arraylength, 1) := by decide +kernel
theorem dX3_canBeTrusted_10 : decode cX3_canBeTrusted 10 = .ok (.if_icmp .ge 37, 3) := by decide +kernel
theorem dX3_canBeTrusted_13 : decode cX3_canBeTrusted 13 = .ok (.aload_n 0, 1) := by decide +kernel
theorem dX3_canBeTrusted_14 : decode cX3_canBeTrusted 14 = .ok (.getfield 9, 3) := by decide +kernel
theorem dX3_canBeTrusted_17 : decode cX3_canBeTrusted 17 = .ok (.iload_n 2, 1) := by decide +kernel
theorem dX3_canBeTrusted_18 : decode cX3_canBeTrusted 18 = .ok (.iaload, 1) := by decide +kernel
theorem dX3_canBeTrusted_19 : decode cX3_canBeTrusted 19 = .ok (.ifCond .le 9, 3) := by decide +kernel
theorem dX3_canBeTrusted_22 : decode cX3_canBeTrusted 22 = .ok (.iinc 1 1, 3) := by decide +kernel
theorem dX3_canBeTrusted_25 : decode cX3_canBeTrusted 25 = .ok (.goto 16, 3) := by decide +kernel
theorem dX3_canBeTrusted_28 : decode cX3_canBeTrusted 28 = .ok (.aload_n 0, 1) := by decide +kernel
theorem dX3_canBeTrusted_29 : decode cX3_canBeTrusted 29 = .ok (.getfield 24, 3) := by decide +kernel
theorem dX3_canBeTrusted_32 : decode cX3_canBeTrusted 32 = .ok (.iload_n 2, 1) := by decide +kernel
theorem dX3_canBeTrusted_33 : decode cX3_canBeTrusted 33 = .ok (.invokevirtual 124, 3) := by decide +kernel
theorem dX3_canBeTrusted_36 : decode cX3_canBeTrusted 36 = .ok (.ifCond .le 5, 3) := by decide +kernel
theorem dX3_canBeTrusted_39 : decode cX3_canBeTrusted 39 = .ok (.iconst 0, 1) := by decide +kernel
theorem dX3_canBeTrusted_40 : decode cX3_canBeTrusted 40 = .ok (.ireturn, 1) := by decide +kernel
theorem dX3_canBeTrusted_41 : decode cX3_canBeTrusted 41 = .ok (.iinc 2 1, 3) := by decide +kernel
theorem dX3_canBeTrusted_44 : decode cX3_canBeTrusted 44 = .ok (.goto (-40), 3) := by decide +kernel
theorem dX3_canBeTrusted_47 : decode cX3_canBeTrusted 47 = .ok (.iload_n 1, 1) := by decide +kernel
theorem dX3_canBeTrusted_48 : decode cX3_canBeTrusted 48 = .ok (.iconst 2, 1) := by decide +kernel
theorem dX3_canBeTrusted_49 : decode cX3_canBeTrusted 49 = .ok (.if_icmp .lt 14, 3) := by decide +kernel
theorem dX3_canBeTrusted_52 : decode cX3_canBeTrusted 52 = .ok (.aload_n 0, 1) := by decide +kernel
theorem dX3_canBeTrusted_53 : decode cX3_canBeTrusted 53 = .ok (.invokevirtual 130, 3) := by decide +kernel
theorem dX3_canBeTrusted_56 : decode cX3_canBeTrusted 56 = .ok (.iload_n 1, 1) := by decide +kernel
theorem dX3_canBeTrusted_57 : decode cX3_canBeTrusted 57 = .ok (.invokestatic 134, 3) := by decide +kernel
theorem dX3_canBeTrusted_60 : decode cX3_canBeTrusted 60 = .ok (.if_icmp .gt 7, 3) := by decide +kernel
theorem dX3_canBeTrusted_63 : decode cX3_canBeTrusted 63 = .ok (.iconst 1, 1) := by decide +kernel
theorem dX3_canBeTrusted_64 : decode cX3_canBeTrusted 64 = .ok (.goto 4, 3) := by decide +kernel
theorem dX3_canBeTrusted_67 : decode cX3_canBeTrusted 67 = .ok (.iconst 0, 1) := by decide +kernel
theorem dX3_canBeTrusted_68 : decode cX3_canBeTrusted 68 = .ok (.ireturn, 1) := by decide +kernel
theorem dX3_mostBadness_0 : decode cX3_mostBadness 0 = .ok (.iload_n 0, 1) := by decide +kernel
theorem dX3_mostBadness_1 : decode cX3_mostBadness 1 = .ok (.iconst 2, 1) := by decide +kernel
theorem dX3_mostBadness_2 : decode cX3_mostBadness 2 = .ok (.if_icmp .ne 7, 3) := by decide +kernel
theorem dX3_mostBadness_5 : decode cX3_mostBadness 5 = .ok (.sipush 384, 3) := by decide +kernel
theorem dX3_mostBadness_8 : decode cX3_mostBadness 8 = .ok (.ireturn, 1) := by decide +kernel
theorem dX3_mostBadness_9 : decode cX3_mostBadness 9 = .ok (.iload_n 0, 1) := by decide +kernel
theorem dX3_mostBadness_10 : decode cX3_mostBadness 10 = .ok (.iconst 3, 1) := by decide +kernel
theorem dX3_mostBadness_11 : decode cX3_mostBadness 11 = .ok (.if_icmp .ne 9, 3) := by decide +kernel
theorem dX3_mostBadness_14 : decode cX3_mostBadness 14 = .ok (.sipush 599, 3) := by decide +kernel
theorem dX3_mostBadness_17 : decode cX3_mostBadness 17 = .ok (.goto 6, 3) := by decide +kernel
theorem dX3_mostBadness_20 : decode cX3_mostBadness 20 = .ok (.sipush 781, 3) := by decide +kernel
theorem dX3_mostBadness_23 : decode cX3_mostBadness 23 = .ok (.ireturn, 1) := by decide +kernel
theorem dX4_init_0 : decode cX4_init 0 = .ok (.aload_n 0, 1) := by decide +kernel
theorem dX4_init_1 : decode cX4_init 1 = .ok (.invokespecial 3, 3) := by decide +kernel
theorem dX4_init_4 : decode cX4_init 4 = .ok (.aload_n 0, 1) := by decide +kernel
theorem dX4_init_5 : decode cX4_init 5 = .ok (.iconst 4, 1) := by decide +kernel
theorem dX4_init_6 : decode cX4_init 6 = .ok (.newarray .int, 2) := by decide +kernel
theorem dX4_init_8 : decode cX4_init 8 = .ok (.putfield 9, 3) := by decide +kernel
theorem dX4_init_11 : decode cX4_init 11 = .ok (.aload_n 0, 1) := by decide +kernel
theorem dX4_init_12 : decode cX4_init 12 = .ok (.iconst 4, 1) := by decide +kernel
theorem dX4_init_13 : decode cX4_init 13 = .ok (.newarray .int, 2) := by decide +kernel
theorem dX4_init_15 : decode cX4_init 15 = .ok (.putfield 15, 3) := by decide +kernel
theorem dX4_init_18 : decode cX4_init 18 = .ok (.aload_n 0, 1) := by decide +kernel
theorem dX4_init_19 : decode cX4_init 19 = .ok (.iconst 4, 1) := by decide +kernel
theorem dX4_init_20 : decode cX4_init 20 = .ok (.newarray .int, 2) := by decide +kernel
theorem dX4_init_22 : decode cX4_init 22 = .ok (.putfield 18, 3) := by decide +kernel
theorem dX4_init_25 : decode cX4_init 25 = .ok (.aload_n 0, 1) := by decide +kernel
theorem dX4_init_26 : decode cX4_init 26 = .ok (.iconst 4, 1) := by decide +kernel
theorem dX4_init_27 : decode cX4_init 27 = .ok (.newarray .long, 2) := by decide +kernel
theorem dX4_init_29 : decode cX4_init 29 = .ok (.putfield 21, 3) := by decide +kernel
theorem dX4_init_32 : decode cX4_init 32 = .ok (.return_, 1) := by decide +kernel
theorem dX4_isKept_0 : decode cX4_isKept 0 = .ok (.iload_n 0, 1) := by decide +kernel
theorem dX4_isKept_1 : decode cX4_isKept 1 = .ok (.ifCond .lt 12, 3) := by decide +kernel
theorem dX4_isKept_4 : decode cX4_isKept 4 = .ok (.iload_n 0, 1) := by decide +kernel
theorem dX4_isKept_5 : decode cX4_isKept 5 = .ok (.iconst 4, 1) := by decide +kernel
theorem dX4_isKept_6 : decode cX4_isKept 6 = .ok (.if_icmp .ge 7, 3) := by decide +kernel
theorem dX4_isKept_9 : decode cX4_isKept 9 = .ok (.iconst 1, 1) := by decide +kernel
theorem dX4_isKept_10 : decode cX4_isKept 10 = .ok (.goto 4, 3) := by decide +kernel
theorem dX4_isKept_13 : decode cX4_isKept 13 = .ok (.iconst 0, 1) := by decide +kernel
theorem dX4_isKept_14 : decode cX4_isKept 14 = .ok (.ireturn, 1) := by decide +kernel
theorem dX4_countArm_0 : decode cX4_countArm 0 = .ok (.iload_n 1, 1) := by decide +kernel
theorem dX4_countArm_1 : decode cX4_countArm 1 = .ok (.invokestatic 25, 3) := by decide +kernel
theorem dX4_countArm_4 : decode cX4_countArm 4 = .ok (.ifCond .eq 23, 3) := by decide +kernel
theorem dX4_countArm_7 : decode cX4_countArm 7 = .ok (.aload_n 0, 1) := by decide +kernel
theorem dX4_countArm_8 : decode cX4_countArm 8 = .ok (.getfield 9, 3) := by decide +kernel
theorem dX4_countArm_11 : decode cX4_countArm 11 = .ok (.iload_n 1, 1) := by decide +kernel
theorem dX4_countArm_12 : decode cX4_countArm 12 = .ok (.dup2, 1) := by decide +kernel
theorem dX4_countArm_13 : decode cX4_countArm 13 = .ok (.iaload, 1) := by decide +kernel
theorem dX4_countArm_14 : decode cX4_countArm 14 = .ok (.iconst 1, 1) := by decide +kernel
theorem dX4_countArm_15 : decode cX4_countArm 15 = .ok (.iadd, 1) := by decide +kernel
theorem dX4_countArm_16 : decode cX4_countArm 16 = .ok (.iastore, 1) := by decide +kernel
theorem dX4_countArm_17 : decode cX4_countArm 17 = .ok (.aload_n 0, 1) := by decide +kernel
theorem dX4_countArm_18 : decode cX4_countArm 18 = .ok (.dup, 1) := by decide +kernel
theorem dX4_countArm_19 : decode cX4_countArm 19 = .ok (.getfield 29, 3) := by decide +kernel
theorem dX4_countArm_22 : decode cX4_countArm 22 = .ok (.iconst 1, 1) := by decide +kernel
theorem dX4_countArm_23 : decode cX4_countArm 23 = .ok (.iadd, 1) := by decide +kernel
theorem dX4_countArm_24 : decode cX4_countArm 24 = .ok (.putfield 29, 3) := by decide +kernel
theorem dX4_countArm_27 : decode cX4_countArm 27 = .ok (.return_, 1) := by decide +kernel
theorem dX4_countAct_0 : decode cX4_countAct 0 = .ok (.iload_n 1, 1) := by decide +kernel
theorem dX4_countAct_1 : decode cX4_countAct 1 = .ok (.invokestatic 25, 3) := by decide +kernel
theorem dX4_countAct_4 : decode cX4_countAct 4 = .ok (.ifCond .eq 58, 3) := by decide +kernel
theorem dX4_countAct_7 : decode cX4_countAct 7 = .ok (.lload_n 2, 1) := by decide +kernel
theorem dX4_countAct_8 : decode cX4_countAct 8 = .ok (.iload 4, 2) := by decide +kernel
theorem dX4_countAct_10 : decode cX4_countAct 10 = .ok (.i2l, 1) := by decide +kernel
theorem dX4_countAct_11 : decode cX4_countAct 11 = .ok (.ladd, 1) := by decide +kernel
theorem dX4_countAct_12 : decode cX4_countAct 12 = .ok (.lstore 6, 2) := by decide +kernel
theorem dX4_countAct_14 : decode cX4_countAct 14 = .ok (.aload_n 0, 1) := by decide +kernel
theorem dX4_countAct_15 : decode cX4_countAct 15 = .ok (.getfield 18, 3) := by decide +kernel
theorem dX4_countAct_18 : decode cX4_countAct 18 = .ok (.iload_n 1, 1) := by decide +kernel
theorem dX4_countAct_19 : decode cX4_countAct 19 = .ok (.dup2, 1) := by decide +kernel
theorem dX4_countAct_20 : decode cX4_countAct 20 = .ok (.iaload, 1) := by decide +kernel
theorem dX4_countAct_21 : decode cX4_countAct 21 = .ok (.iload 4, 2) := by decide +kernel
theorem dX4_countAct_23 : decode cX4_countAct 23 = .ok (.iadd, 1) := by decide +kernel
theorem dX4_countAct_24 : decode cX4_countAct 24 = .ok (.iastore, 1) := by decide +kernel
theorem dX4_countAct_25 : decode cX4_countAct 25 = .ok (.aload_n 0, 1) := by decide +kernel
theorem dX4_countAct_26 : decode cX4_countAct 26 = .ok (.getfield 21, 3) := by decide +kernel
theorem dX4_countAct_29 : decode cX4_countAct 29 = .ok (.iload_n 1, 1) := by decide +kernel
theorem dX4_countAct_30 : decode cX4_countAct 30 = .ok (.dup2, 1) := by decide +kernel
theorem dX4_countAct_31 : decode cX4_countAct 31 = .ok (.laload, 1) := by decide +kernel
theorem dX4_countAct_32 : decode cX4_countAct 32 = .ok (.lload 6, 2) := by decide +kernel
theorem dX4_countAct_34 : decode cX4_countAct 34 = .ok (.lload 6, 2) := by decide +kernel
theorem dX4_countAct_36 : decode cX4_countAct 36 = .ok (.lmul, 1) := by decide +kernel
theorem dX4_countAct_37 : decode cX4_countAct 37 = .ok (.lload_n 2, 1) := by decide +kernel
theorem dX4_countAct_38 : decode cX4_countAct 38 = .ok (.lload_n 2, 1) := by decide +kernel
theorem dX4_countAct_39 : decode cX4_countAct 39 = .ok (.lmul, 1) := by decide +kernel
theorem dX4_countAct_40 : decode cX4_countAct 40 = .ok (.lsub, 1) := by decide +kernel
theorem dX4_countAct_41 : decode cX4_countAct 41 = .ok (.ladd, 1) := by decide +kernel
theorem dX4_countAct_42 : decode cX4_countAct 42 = .ok (.lastore, 1) := by decide +kernel
theorem dX4_countAct_43 : decode cX4_countAct 43 = .ok (.aload_n 0, 1) := by decide +kernel
theorem dX4_countAct_44 : decode cX4_countAct 44 = .ok (.getfield 15, 3) := by decide +kernel
theorem dX4_countAct_47 : decode cX4_countAct 47 = .ok (.iload_n 1, 1) := by decide +kernel
theorem dX4_countAct_48 : decode cX4_countAct 48 = .ok (.dup2, 1) := by decide +kernel
theorem dX4_countAct_49 : decode cX4_countAct 49 = .ok (.iaload, 1) := by decide +kernel
theorem dX4_countAct_50 : decode cX4_countAct 50 = .ok (.iload 5, 2) := by decide +kernel
theorem dX4_countAct_52 : decode cX4_countAct 52 = .ok (.ifCond .eq 7, 3) := by decide +kernel
theorem dX4_countAct_55 : decode cX4_countAct 55 = .ok (.iconst 1, 1) := by decide +kernel
theorem dX4_countAct_56 : decode cX4_countAct 56 = .ok (.goto 4, 3) := by decide +kernel
theorem dX4_countAct_59 : decode cX4_countAct 59 = .ok (.iconst 0, 1) := by decide +kernel
theorem dX4_countAct_60 : decode cX4_countAct 60 = .ok (.iadd, 1) := by decide +kernel
theorem dX4_countAct_61 : decode cX4_countAct 61 = .ok (.iastore, 1) := by decide +kernel
theorem dX4_countAct_62 : decode cX4_countAct 62 = .ok (.return_, 1) := by decide +kernel
theorem dX4_countOf_0 : decode cX4_countOf 0 = .ok (.iload_n 1, 1) := by decide +kernel
theorem dX4_countOf_1 : decode cX4_countOf 1 = .ok (.invokestatic 25, 3) := by decide +kernel
theorem dX4_countOf_4 : decode cX4_countOf 4 = .ok (.ifCond .eq 12, 3) := by decide +kernel
theorem dX4_countOf_7 : decode cX4_countOf 7 = .ok (.aload_n 0, 1) := by decide +kernel
theorem dX4_countOf_8 : decode cX4_countOf 8 = .ok (.getfield 9, 3) := by decide +kernel
theorem dX4_countOf_11 : decode cX4_countOf 11 = .ok (.iload_n 1, 1) := by decide +kernel
theorem dX4_countOf_12 : decode cX4_countOf 12 = .ok (.iaload, 1) := by decide +kernel
theorem dX4_countOf_13 : decode cX4_countOf 13 = .ok (.goto 4, 3) := by decide +kernel
theorem dX4_countOf_16 : decode cX4_countOf 16 = .ok (.iconst 0, 1) := by decide +kernel
theorem dX4_countOf_17 : decode cX4_countOf 17 = .ok (.ireturn, 1) := by decide +kernel
theorem dX4_actedOf_0 : decode cX4_actedOf 0 = .ok (.iload_n 1, 1) := by decide +kernel
theorem dX4_actedOf_1 : decode cX4_actedOf 1 = .ok (.invokestatic 25, 3) := by decide +kernel
theorem dX4_actedOf_4 : decode cX4_actedOf 4 = .ok (.ifCond .eq 12, 3) := by decide +kernel
theorem dX4_actedOf_7 : decode cX4_actedOf 7 = .ok (.aload_n 0, 1) := by decide +kernel
theorem dX4_actedOf_8 : decode cX4_actedOf 8 = .ok (.getfield 15, 3) := by decide +kernel
theorem dX4_actedOf_11 : decode cX4_actedOf 11 = .ok (.iload_n 1, 1) := by decide +kernel
theorem dX4_actedOf_12 : decode cX4_actedOf 12 = .ok (.iaload, 1) := by decide +kernel
theorem dX4_actedOf_13 : decode cX4_actedOf 13 = .ok (.goto 4, 3) := by decide +kernel
theorem dX4_actedOf_16 : decode cX4_actedOf 16 = .ok (.iconst 0, 1) := by decide +kernel
theorem dX4_actedOf_17 : decode cX4_actedOf 17 = .ok (.ireturn, 1) := by decide +kernel
theorem dX4_sumOf_0 : decode cX4_sumOf 0 = .ok (.iload_n 1, 1) := by decide +kernel
theorem dX4_sumOf_1 : decode cX4_sumOf 1 = .ok (.invokestatic 25, 3) := by decide +kernel
theorem dX4_sumOf_4 : decode cX4_sumOf 4 = .ok (.ifCond .eq 12, 3) := by decide +kernel
theorem dX4_sumOf_7 : decode cX4_sumOf 7 = .ok (.aload_n 0, 1) := by decide +kernel
theorem dX4_sumOf_8 : decode cX4_sumOf 8 = .ok (.getfield 18, 3) := by decide +kernel
theorem dX4_sumOf_11 : decode cX4_sumOf 11 = .ok (.iload_n 1, 1) := by decide +kernel
theorem dX4_sumOf_12 : decode cX4_sumOf 12 = .ok (.iaload, 1) := by decide +kernel
theorem dX4_sumOf_13 : decode cX4_sumOf 13 = .ok (.goto 4, 3) := by decide +kernel
theorem dX4_sumOf_16 : decode cX4_sumOf 16 = .ok (.iconst 0, 1) := by decide +kernel
theorem dX4_sumOf_17 : decode cX4_sumOf 17 = .ok (.ireturn, 1) := by decide +kernel
theorem dX4_squaresOf_0 : decode cX4_squaresOf 0 = .ok (.iload_n 1, 1) := by decide +kernel
theorem dX4_squaresOf_1 : decode cX4_squaresOf 1 = .ok (.invokestatic 25, 3) := by decide +kernel
theorem dX4_squaresOf_4 : decode cX4_squaresOf 4 = .ok (.ifCond .eq 12, 3) := by decide +kernel
theorem dX4_squaresOf_7 : decode cX4_squaresOf 7 = .ok (.aload_n 0, 1) := by decide +kernel
theorem dX4_squaresOf_8 : decode cX4_squaresOf 8 = .ok (.getfield 21, 3) := by decide +kernel
theorem dX4_squaresOf_11 : decode cX4_squaresOf 11 = .ok (.iload_n 1, 1) := by decide +kernel
theorem dX4_squaresOf_12 : decode cX4_squaresOf 12 = .ok (.laload, 1) := by decide +kernel
theorem dX4_squaresOf_13 : decode cX4_squaresOf 13 = .ok (.goto 4, 3) := by decide +kernel
theorem dX4_squaresOf_16 : decode cX4_squaresOf 16 = .ok (.lconst 0, 1) := by decide +kernel
theorem dX4_squaresOf_17 : decode cX4_squaresOf 17 = .ok (.lreturn, 1) := by decide +kernel
theorem dX4_meanOf_0 : decode cX4_meanOf 0 = .ok (.aload_n 0, 1) := by decide +kernel
theorem dX4_meanOf_1 : decode cX4_meanOf 1 = .ok (.iload_n 1, 1) := by decide +kernel
theorem dX4_meanOf_2 : decode cX4_meanOf 2 = .ok (.invokevirtual 33, 3) := by decide +kernel
theorem dX4_meanOf_5 : decode cX4_meanOf 5 = .ok (.istore_n 2, 1) := by decide +kernel
theorem dX4_meanOf_6 : decode cX4_meanOf 6 = .ok (.iload_n 2, 1) := by decide +kernel
theorem dX4_meanOf_7 : decode cX4_meanOf 7 = .ok (.ifCond .ne 7, 3) := by decide +kernel
theorem dX4_meanOf_10 : decode cX4_meanOf 10 = .ok (.dconst 0, 1) := by decide +kernel
theorem dX4_meanOf_11 : decode cX4_meanOf 11 = .ok (.goto 12, 3) := by decide +kernel
theorem dX4_meanOf_14 : decode cX4_meanOf 14 = .ok (.aload_n 0, 1) := by decide +kernel
theorem dX4_meanOf_15 : decode cX4_meanOf 15 = .ok (.iload_n 1, 1) := by decide +kernel
theorem dX4_meanOf_16 : decode cX4_meanOf 16 = .ok (.invokevirtual 37, 3) := by decide +kernel
theorem dX4_meanOf_19 : decode cX4_meanOf 19 = .ok (.i2d, 1) := by decide +kernel
theorem dX4_meanOf_20 : decode cX4_meanOf 20 = .ok (.iload_n 2, 1) := by decide +kernel
theorem dX4_meanOf_21 : decode cX4_meanOf 21 = .ok (.i2d, 1) := by decide +kernel
theorem dX4_meanOf_22 : decode cX4_meanOf 22 = .ok (.ddiv, 1) := by decide +kernel
theorem dX4_meanOf_23 : decode cX4_meanOf 23 = .ok (.dreturn, 1) := by decide +kernel
theorem dX4_liftOf_0 : decode cX4_liftOf 0 = .ok (.aload_n 0, 1) := by decide +kernel
theorem dX4_liftOf_1 : decode cX4_liftOf 1 = .ok (.iload_n 1, 1) := by decide +kernel
theorem dX4_liftOf_2 : decode cX4_liftOf 2 = .ok (.invokevirtual 40, 3) := by decide +kernel
theorem dX4_liftOf_5 : decode cX4_liftOf 5 = .ok (.aload_n 0, 1) := by decide +kernel
theorem dX4_liftOf_6 : decode cX4_liftOf 6 = .ok (.iconst 0, 1) := by decide +kernel
theorem dX4_liftOf_7 : decode cX4_liftOf 7 = .ok (.invokevirtual 40, 3) := by decide +kernel
theorem dX4_liftOf_10 : decode cX4_liftOf 10 = .ok (.dsub, 1) := by decide +kernel
theorem dX4_liftOf_11 : decode cX4_liftOf 11 = .ok (.dreturn, 1) := by decide +kernel
theorem dX4_surenessOf_0 : decode cX4_surenessOf 0 = .ok (.aload_n 0, 1) := by decide +kernel
theorem dX4_surenessOf_1 : decode cX4_surenessOf 1 = .ok (.iload_n 1, 1) := by decide +kernel
theorem dX4_surenessOf_2 : decode cX4_surenessOf 2 = .ok (.invokevirtual 33, 3) := by decide +kernel
theorem dX4_surenessOf_5 : decode cX4_surenessOf 5 = .ok (.ifCond .eq 11, 3) := by decide +kernel
theorem dX4_surenessOf_8 : decode cX4_surenessOf 8 = .ok (.aload_n 0, 1) := by decide +kernel
theorem dX4_surenessOf_9 : decode cX4_surenessOf 9 = .ok (.iconst 0, 1) := by decide +kernel
theorem dX4_surenessOf_10 : decode cX4_surenessOf 10 = .ok (.invokevirtual 33, 3) := by decide +kernel
theorem dX4_surenessOf_13 : decode cX4_surenessOf 13 = .ok (.ifCond .ne 5, 3) := by decide +kernel
theorem dX4_surenessOf_16 : decode cX4_surenessOf 16 = .ok (.dconst 0, 1) := by decide +kernel
theorem dX4_surenessOf_17 : decode cX4_surenessOf 17 = .ok (.dreturn, 1) := by decide +kernel
theorem dX4_surenessOf_18 : decode cX4_surenessOf 18 = .ok (.aload_n 0, 1) := by decide +kernel
theorem dX4_surenessOf_19 : decode cX4_surenessOf 19 = .ok (.iload_n 1, 1) := by decide +kernel
theorem dX4_surenessOf_20 : decode cX4_surenessOf 20 = .ok (.invokevirtual 44, 3) := by decide +kernel
theorem dX4_surenessOf_23 : decode cX4_surenessOf 23 = .ok (.aload_n 0, 1) := by decide +kernel
theorem dX4_surenessOf_24 : decode cX4_surenessOf 24 = .ok (.iconst 0, 1) := by decide +kernel
theorem dX4_surenessOf_25 : decode cX4_surenessOf 25 = .ok (.invokevirtual 44, 3) := by decide +kernel
theorem dX4_surenessOf_28 : decode cX4_surenessOf 28 = .ok (.dadd, 1) := by decide +kernel
theorem dX4_surenessOf_29 : decode cX4_surenessOf 29 = .ok (.dstore_n 2, 1) := by decide +kernel
theorem dX4_surenessOf_30 : decode cX4_surenessOf 30 = .ok (.aload_n 0, 1) := by decide +kernel
theorem dX4_surenessOf_31 : decode cX4_surenessOf 31 = .ok (.iload_n 1, 1) := by decide +kernel
theorem dX4_surenessOf_32 : decode cX4_surenessOf 32 = .ok (.invokevirtual 47, 3) := by decide +kernel
theorem dX4_surenessOf_35 : decode cX4_surenessOf 35 = .ok (.dstore 4, 2) := by decide +kernel
theorem dX4_surenessOf_37 : decode cX4_surenessOf 37 = .ok (.dload_n 2, 1) := by decide +kernel
theorem dX4_surenessOf_38 : decode cX4_surenessOf 38 = .ok (.dconst 0, 1) := by decide +kernel
theorem dX4_surenessOf_39 : decode cX4_surenessOf 39 = .ok (.dcmp .l, 1) := by decide +kernel
theorem dX4_surenessOf_40 : decode cX4_surenessOf 40 = .ok (.ifCond .ne 7, 3) := by decide +kernel
theorem dX4_surenessOf_43 : decode cX4_surenessOf 43 = .ok (.dconst 0, 1) := by decide +kernel
theorem dX4_surenessOf_44 : decode cX4_surenessOf 44 = .ok (.goto 10, 3) := by decide +kernel
theorem dX4_surenessOf_47 : decode cX4_surenessOf 47 = .ok (.dload 4, 2) := by decide +kernel
theorem dX4_surenessOf_49 : decode cX4_surenessOf 49 = .ok (.dload 4, 2) := by decide +kernel
theorem dX4_surenessOf_51 : decode cX4_surenessOf 51 = .ok (.dmul, 1) := by decide +kernel
theorem dX4_surenessOf_52 : decode cX4_surenessOf 52 = .ok (.dload_n 2, 1) := by decide +kernel
theorem dX4_surenessOf_53 : decode cX4_surenessOf 53 = .ok (.ddiv, 1) := by decide +kernel
theorem dX4_surenessOf_54 : decode cX4_surenessOf 54 = .ok (.dreturn, 1) := by decide +kernel
theorem dX4_spreadByCount_0 : decode cX4_spreadByCount 0 = .ok (.aload_n 0, 1) := by decide +kernel
theorem dX4_spreadByCount_1 : decode cX4_spreadByCount 1 = .ok (.iload_n 1, 1) := by decide +kernel
theorem dX4_spreadByCount_2 : decode cX4_spreadByCount 2 = .ok (.invokevirtual 33, 3) := by decide +kernel
theorem dX4_spreadByCount_5 : decode cX4_spreadByCount 5 = .ok (.istore_n 2, 1) := by decide +kernel
theorem dX4_spreadByCount_6 : decode cX4_spreadByCount 6 = .ok (.iload_n 2, 1) := by decide +kernel
theorem dX4_spreadByCount_7 : decode cX4_spreadByCount 7 = .ok (.ifCond .ne 5, 3) := by decide +kernel
theorem dX4_spreadByCount_10 : decode cX4_spreadByCount 10 = .ok (.dconst 0, 1) := by decide +kernel
theorem dX4_spreadByCount_11 : decode cX4_spreadByCount 11 = .ok (.dreturn, 1) := by decide +kernel
theorem dX4_spreadByCount_12 : decode cX4_spreadByCount 12 = .ok (.aload_n 0, 1) := by decide +kernel
theorem dX4_spreadByCount_13 : decode cX4_spreadByCount 13 = .ok (.iload_n 1, 1) := by decide +kernel
theorem dX4_spreadByCount_14 : decode cX4_spreadByCount 14 = .ok (.invokevirtual 40, 3) := by decide +kernel
theorem dX4_spreadByCount_17 : decode cX4_spreadByCount 17 = .ok (.dstore_n 3, 1) := by decide +kernel
theorem dX4_spreadByCount_18 : decode cX4_spreadByCount 18 = .ok (.aload_n 0, 1) := by decide +kernel
theorem dX4_spreadByCount_19 : decode cX4_spreadByCount 19 = .ok (.iload_n 1, 1) := by decide +kernel
theorem dX4_spreadByCount_20 : decode cX4_spreadByCount 20 = .ok (.invokevirtual 50, 3) := by decide +kernel
theorem dX4_spreadByCount_23 : decode cX4_spreadByCount 23 = .ok (.l2d, 1) := by decide +kernel
theorem dX4_spreadByCount_24 : decode cX4_spreadByCount 24 = .ok (.iload_n 2, 1) := by decide +kernel
theorem dX4_spreadByCount_25 : decode cX4_spreadByCount 25 = .ok (.i2d, 1) := by decide +kernel
theorem dX4_spreadByCount_26 : decode cX4_spreadByCount 26 = .ok (.ddiv, 1) := by decide +kernel
theorem dX4_spreadByCount_27 : decode cX4_spreadByCount 27 = .ok (.dload_n 3, 1) := by decide +kernel
theorem dX4_spreadByCount_28 : decode cX4_spreadByCount 28 = .ok (.dload_n 3, 1) := by decide +kernel
theorem dX4_spreadByCount_29 : decode cX4_spreadByCount 29 = .ok (.dmul, 1) := by decide +kernel
theorem dX4_spreadByCount_30 : decode cX4_spreadByCount 30 = .ok (.dsub, 1) := by decide +kernel
theorem dX4_spreadByCount_31 : decode cX4_spreadByCount 31 = .ok (.dstore 5, 2) := by decide +kernel
theorem dX4_spreadByCount_33 : decode cX4_spreadByCount 33 = .ok (.dload 5, 2) := by decide +kernel
theorem dX4_spreadByCount_35 : decode cX4_spreadByCount 35 = .ok (.iload_n 2, 1) := by decide +kernel
theorem dX4_spreadByCount_36 : decode cX4_spreadByCount 36 = .ok (.i2d, 1) := by decide +kernel
theorem dX4_spreadByCount_37 : decode cX4_spreadByCount 37 = .ok (.ddiv, 1) := by decide +kernel
theorem dX4_spreadByCount_38 : decode cX4_spreadByCount 38 = .ok (.dreturn, 1) := by decide +kernel
theorem dX4_bestVariant_0 : decode cX4_bestVariant 0 = .ok (.iconst (-1), 1) := by decide +kernel
theorem dX4_bestVariant_1 : decode cX4_bestVariant 1 = .ok (.istore_n 1, 1) := by decide +kernel
theorem dX4_bestVariant_2 : decode cX4_bestVariant 2 = .ok (.iconst 0, 1) := by decide +kernel
theorem dX4_bestVariant_3 : decode cX4_bestVariant 3 = .ok (.istore_n 2, 1) := by decide +kernel
theorem dX4_bestVariant_4 : decode cX4_bestVariant 4 = .ok (.iload_n 2, 1) := by decide +kernel
theorem dX4_bestVariant_5 : decode cX4_bestVariant 5 = .ok (.iconst 4, 1) := by decide +kernel
theorem dX4_bestVariant_6 : decode cX4_bestVariant 6 = .ok (.if_icmp .ge 38, 3) := by decide +kernel
theorem dX4_bestVariant_9 : decode cX4_bestVariant 9 = .ok (.aload_n 0, 1) := by decide +kernel
theorem dX4_bestVariant_10 : decode cX4_bestVariant 10 = .ok (.iload_n 2, 1) := by decide +kernel
theorem dX4_bestVariant_11 : decode cX4_bestVariant 11 = .ok (.invokevirtual 33, 3) := by decide +kernel
theorem dX4_bestVariant_14 : decode cX4_bestVariant 14 = .ok (.ifCond .le 24, 3) := by decide +kernel
theorem dX4_bestVariant_17 : decode cX4_bestVariant 17 = .ok (.iload_n 1, 1) := by decide +kernel
theorem dX4_bestVariant_18 : decode cX4_bestVariant 18 = .ok (.iconst (-1), 1) := by decide +kernel
theorem dX4_bestVariant_19 : decode cX4_bestVariant 19 = .ok (.if_icmp .eq 17, 3) := by decide +kernel
theorem dX4_bestVariant_22 : decode cX4_bestVariant 22 = .ok (.aload_n 0, 1) := by decide +kernel
theorem dX4_bestVariant_23 : decode cX4_bestVariant 23 = .ok (.iload_n 2, 1) := by decide +kernel
theorem dX4_bestVariant_24 : decode cX4_bestVariant 24 = .ok (.invokevirtual 40, 3) := by decide +kernel
theorem dX4_bestVariant_27 : decode cX4_bestVariant 27 = .ok (.aload_n 0, 1) := by decide +kernel
theorem dX4_bestVariant_28 : decode cX4_bestVariant 28 = .ok (.iload_n 1, 1) := by decide +kernel
theorem dX4_bestVariant_29 : decode cX4_bestVariant 29 = .ok (.invokevirtual 40, 3) := by decide +kernel
theorem dX4_bestVariant_32 : decode cX4_bestVariant 32 = .ok (.dcmp .l, 1) := by decide +kernel
theorem dX4_bestVariant_33 : decode cX4_bestVariant 33 = .ok (.ifCond .le 5, 3) := by decide +kernel
theorem dX4_bestVariant_36 : decode cX4_bestVariant 36 = .ok (.iload_n 2, 1) := by decide +kernel
theorem dX4_bestVariant_37 : decode cX4_bestVariant 37 = .ok (.istore_n 1, 1) := by decide +kernel
theorem dX4_bestVariant_38 : decode cX4_bestVariant 38 = .ok (.iinc 2 1, 3) := by decide +kernel
theorem dX4_bestVariant_41 : decode cX4_bestVariant 41 = .ok (.goto (-37), 3) := by decide +kernel
theorem dX4_bestVariant_44 : decode cX4_bestVariant 44 = .ok (.iload_n 1, 1) := by decide +kernel
theorem dX4_bestVariant_45 : decode cX4_bestVariant 45 = .ok (.ireturn, 1) := by decide +kernel
theorem dX5_init_0 : decode cX5_init 0 = .ok (.aload_n 0, 1) := by decide +kernel
theorem dX5_init_1 : decode cX5_init 1 = .ok (.invokespecial 1, 3) := by decide +kernel
theorem dX5_init_4 : decode cX5_init 4 = .ok (.aload_n 0, 1) := by decide +kernel
theorem dX5_init_5 : decode cX5_init 5 = .ok (.bipush 8, 2) := by decide +kernel
theorem dX5_init_7 : decode cX5_init 7 = .ok (.anewarray 9, 3) := by decide +kernel
theorem dX5_init_10 : decode cX5_init 10 = .ok (.putfield 11, 3) := by decide +kernel
theorem dX5_init_13 : decode cX5_init 13 = .ok (.aload_n 0, 1) := by decide +kernel
theorem dX5_init_14 : decode cX5_init 14 = .ok (.new 15, 3) := by decide +kernel
theorem dX5_init_17 : decode cX5_init 17 = .ok (.dup, 1) := by decide +kernel
theorem dX5_init_18 : decode cX5_init 18 = .ok (.invokespecial 17, 3) := by decide +kernel
theorem dX5_init_21 : decode cX5_init 21 = .ok (.putfield 18, 3) := by decide +kernel
theorem dX5_init_24 : decode cX5_init 24 = .ok (.return_, 1) := by decide +kernel
theorem dX5_add_0 : decode cX5_add 0 = .ok (.iload_n 1, 1) := by decide +kernel
theorem dX5_add_1 : decode cX5_add 1 = .ok (.iconst 0, 1) := by decide +kernel
theorem dX5_add_2 : decode cX5_add 2 = .ok (.sipush 498, 3) := by decide +kernel
theorem dX5_add_5 : decode cX5_add 5 = .ok (.invokestatic 22, 3) := by decide +kernel
theorem dX5_add_8 : decode cX5_add 8 = .ok (.ifCond .ne 12, 3) := by decide +kernel
theorem dX5_add_11 : decode cX5_add 11 = .ok (.iload_n 2, 1) := by decide +kernel
theorem dX5_add_12 : decode cX5_add 12 = .ok (.iconst 2, 1) := by decide +kernel
theorem dX5_add_13 : decode cX5_add 13 = .ok (.iconst 4, 1) := by decide +kernel
theorem dX5_add_14 : decode cX5_add 14 = .ok (.invokestatic 22, 3) := by decide +kernel
theorem dX5_add_17 : decode cX5_add 17 = .ok (.ifCond .eq 13, 3) := by decide +kernel
theorem dX5_add_20 : decode cX5_add 20 = .ok (.new 26, 3) := by decide +kernel
theorem dX5_add_23 : decode cX5_add 23 = .ok (.dup, 1) := by decide +kernel
theorem dX5_add_24 : decode cX5_add 24 = .ok (.ldc 28, 2) := by decide +kernel
theorem dX5_add_26 : decode cX5_add 26 = .ok (.invokespecial 30, 3) := by decide +kernel
theorem dX5_add_29 : decode cX5_add 29 = .ok (.athrow, 1) := by decide +kernel
theorem dX5_add_30 : decode cX5_add 30 = .ok (.aload_n 0, 1) := by decide +kernel
theorem dX5_add_31 : decode cX5_add 31 = .ok (.getfield 33, 3) := by decide +kernel
theorem dX5_add_34 : decode cX5_add 34 = .ok (.istore 4, 2) := by decide +kernel
theorem dX5_add_36 : decode cX5_add 36 = .ok (.iload 4, 2) := by decide +kernel
theorem dX5_add_38 : decode cX5_add 38 = .ok (.ifCond .lt 13, 3) := by decide +kernel
theorem dX5_add_41 : decode cX5_add 41 = .ok (.iload 4, 2) := by decide +kernel
theorem dX5_add_43 : decode cX5_add 43 = .ok (.aload_n 0, 1) := by decide +kernel
theorem dX5_add_44 : decode cX5_add 44 = .ok (.getfield 11, 3) := by decide +kernel
theorem dX5_add_47 : decode cX5_add 47 = .ok (.arraylength, 1) := by decide +kernel
theorem dX5_add_48 : decode cX5_add 48 = .ok (.if_icmp .lt 13, 3) := by decide +kernel
theorem dX5_add_51 : decode cX5_add 51 = .ok (.new 37, 3) := by decide +kernel
theorem dX5_add_54 : decode cX5_add 54 = .ok (.dup, 1) := by decide +kernel
theorem dX5_add_55 : decode cX5_add 55 = .ok (.ldc 39, 2) := by decide +kernel
theorem dX5_add_57 : decode cX5_add 57 = .ok (.invokespecial 41, 3) := by decide +kernel
theorem dX5_add_60 : decode cX5_add 60 = .ok (.athrow, 1) := by decide +kernel
theorem dX5_add_61 : decode cX5_add 61 = .ok (.aload_n 0, 1) := by decide +kernel
theorem dX5_add_62 : decode cX5_add 62 = .ok (.getfield 11, 3) := by decide +kernel
theorem dX5_add_65 : decode cX5_add 65 = .ok (.iload 4, 2) := by decide +kernel
theorem dX5_add_67 : decode cX5_add 67 = .ok (.new 9, 3) := by decide +kernel
theorem dX5_add_70 : decode cX5_add 70 = .ok (.dup, 1) := by decide +kernel
theorem dX5_add_71 : decode cX5_add 71 = .ok (.iload 4, 2) := by decide +kernel
theorem dX5_add_73 : decode cX5_add 73 = .ok (.iload_n 1, 1) := by decide +kernel
theorem dX5_add_74 : decode cX5_add 74 = .ok (.iload_n 2, 1) := by decide +kernel
theorem dX5_add_75 : decode cX5_add 75 = .ok (.iload_n 3, 1) := by decide +kernel
theorem dX5_add_76 : decode cX5_add 76 = .ok (.invokespecial 42, 3) := by decide +kernel
theorem dX5_add_79 : decode cX5_add 79 = .ok (.aastore, 1) := by decide +kernel
theorem dX5_add_80 : decode cX5_add 80 = .ok (.aload_n 0, 1) := by decide +kernel
theorem dX5_add_81 : decode cX5_add 81 = .ok (.iload 4, 2) := by decide +kernel
theorem dX5_add_83 : decode cX5_add 83 = .ok (.iconst 1, 1) := by decide +kernel
theorem dX5_add_84 : decode cX5_add 84 = .ok (.iadd, 1) := by decide +kernel
theorem dX5_add_85 : decode cX5_add 85 = .ok (.putfield 33, 3) := by decide +kernel
theorem dX5_add_88 : decode cX5_add 88 = .ok (.iload 4, 2) := by decide +kernel
theorem dX5_add_90 : decode cX5_add 90 = .ok (.ireturn, 1) := by decide +kernel
theorem dX5_weigh_0 : decode cX5_weigh 0 = .ok (.aload_n 0, 1) := by decide +kernel
theorem dX5_weigh_1 : decode cX5_weigh 1 = .ok (.iload_n 1, 1) := by decide +kernel
theorem dX5_weigh_2 : decode cX5_weigh 2 = .ok (.invokevirtual 45, 3) := by decide +kernel
theorem dX5_weigh_5 : decode cX5_weigh 5 = .ok (.astore 4, 2) := by decide +kernel
theorem dX5_weigh_7 : decode cX5_weigh 7 = .ok (.aload 4, 2) := by decide +kernel
theorem dX5_weigh_9 : decode cX5_weigh 9 = .ok (.iload_n 2, 1) := by decide +kernel
theorem dX5_weigh_10 : decode cX5_weigh 10 = .ok (.invokestatic 49, 3) := by decide +kernel
theorem dX5_weigh_13 : decode cX5_weigh 13 = .ok (.aload 4, 2) := by decide +kernel
theorem dX5_weigh_15 : decode cX5_weigh 15 = .ok (.iconst 0, 1) := by decide +kernel
theorem dX5_weigh_16 : decode cX5_weigh 16 = .ok (.invokevirtual 53, 3) := by decide +kernel
theorem dX5_weigh_19 : decode cX5_weigh 19 = .ok (.aload 4, 2) := by decide +kernel
theorem dX5_weigh_21 : decode cX5_weigh 21 = .ok (.iload_n 2, 1) := by decide +kernel
theorem dX5_weigh_22 : decode cX5_weigh 22 = .ok (.invokevirtual 53, 3) := by decide +kernel
theorem dX5_weigh_25 : decode cX5_weigh 25 = .ok (.iadd, 1) := by decide +kernel
theorem dX5_weigh_26 : decode cX5_weigh 26 = .ok (.iload_n 3, 1) := by decide +kernel
theorem dX5_weigh_27 : decode cX5_weigh 27 = .ok (.isub, 1) := by decide +kernel
theorem dX5_weigh_28 : decode cX5_weigh 28 = .ok (.istore 5, 2) := by decide +kernel
theorem dX5_weigh_30 : decode cX5_weigh 30 = .ok (.iload_n 2, 1) := by decide +kernel
theorem dX5_weigh_31 : decode cX5_weigh 31 = .ok (.ifCond .eq 19, 3) := by decide +kernel
theorem dX5_weigh_34 : decode cX5_weigh 34 = .ok (.iload_n 3, 1) := by decide +kernel
theorem dX5_weigh_35 : decode cX5_weigh 35 = .ok (.iconst 0, 1) := by decide +kernel
theorem dX5_weigh_36 : decode cX5_weigh 36 = .ok (.sipush 1000, 3) := by decide +kernel
theorem dX5_weigh_39 : decode cX5_weigh 39 = .ok (.invokestatic 22, 3) := by decide +kernel
theorem dX5_weigh_42 : decode cX5_weigh 42 = .ok (.ifCond .ne 8, 3) := by decide +kernel
theorem dX5_weigh_45 : decode cX5_weigh 45 = .ok (.iload 5, 2) := by decide +kernel
theorem dX5_weigh_47 : decode cX5_weigh 47 = .ok (.ifCond .ge 13, 3) := by decide +kernel
theorem dX5_weigh_50 : decode cX5_weigh 50 = .ok (.new 26, 3) := by decide +kernel
theorem dX5_weigh_53 : decode cX5_weigh 53 = .ok (.dup, 1) := by decide +kernel
theorem dX5_weigh_54 : decode cX5_weigh 54 = .ok (.ldc 57, 2) := by decide +kernel
theorem dX5_weigh_56 : decode cX5_weigh 56 = .ok (.invokespecial 30, 3) := by decide +kernel
theorem dX5_weigh_59 : decode cX5_weigh 59 = .ok (.athrow, 1) := by decide +kernel
theorem dX5_weigh_60 : decode cX5_weigh 60 = .ok (.aload 4, 2) := by decide +kernel
theorem dX5_weigh_62 : decode cX5_weigh 62 = .ok (.iload_n 2, 1) := by decide +kernel
theorem dX5_weigh_63 : decode cX5_weigh 63 = .ok (.iload_n 3, 1) := by decide +kernel
theorem dX5_weigh_64 : decode cX5_weigh 64 = .ok (.invokevirtual 59, 3) := by decide +kernel
theorem dX5_weigh_67 : decode cX5_weigh 67 = .ok (.aload 4, 2) := by decide +kernel
theorem dX5_weigh_69 : decode cX5_weigh 69 = .ok (.iconst 0, 1) := by decide +kernel
theorem dX5_weigh_70 : decode cX5_weigh 70 = .ok (.iload 5, 2) := by decide +kernel
theorem dX5_weigh_72 : decode cX5_weigh 72 = .ok (.invokevirtual 59, 3) := by decide +kernel
theorem dX5_weigh_75 : decode cX5_weigh 75 = .ok (.iload 5, 2) := by decide +kernel
theorem dX5_weigh_77 : decode cX5_weigh 77 = .ok (.ireturn, 1) := by decide +kernel
theorem dX5_turn_0 : decode cX5_turn 0 = .ok (.aload_n 0, 1) := by decide +kernel
theorem dX5_turn_1 : decode cX5_turn 1 = .ok (.iload_n 1, 1) := by decide +kernel
theorem dX5_turn_2 : decode cX5_turn 2 = .ok (.invokevirtual 45, 3) := by decide +kernel
theorem dX5_turn_5 : decode cX5_turn 5 = .ok (.astore_n 3, 1) := by decide +kernel
theorem dX5_turn_6 : decode cX5_turn 6 = .ok (.aload_n 3, 1) := by decide +kernel
theorem dX5_turn_7 : decode cX5_turn 7 = .ok (.getfield 63, 3) := by decide +kernel
theorem dX5_turn_10 : decode cX5_turn 10 = .ok (.istore 4, 2) := by decide +kernel
theorem dX5_turn_12 : decode cX5_turn 12 = .ok (.aload_n 3, 1) := by decide +kernel
theorem dX5_turn_13 : decode cX5_turn 13 = .ok (.iload_n 2, 1) := by decide +kernel
theorem dX5_turn_14 : decode cX5_turn 14 = .ok (.putfield 63, 3) := by decide +kernel
theorem dX5_turn_17 : decode cX5_turn 17 = .ok (.iload 4, 2) := by decide +kernel
theorem dX5_turn_19 : decode cX5_turn 19 = .ok (.ireturn, 1) := by decide +kernel
theorem dX5_ramp_0 : decode cX5_ramp 0 = .ok (.aload_n 0, 1) := by decide +kernel
theorem dX5_ramp_1 : decode cX5_ramp 1 = .ok (.iload_n 1, 1) := by decide +kernel
theorem dX5_ramp_2 : decode cX5_ramp 2 = .ok (.invokevirtual 45, 3) := by decide +kernel
theorem dX5_ramp_5 : decode cX5_ramp 5 = .ok (.astore 4, 2) := by decide +kernel
theorem dX5_ramp_7 : decode cX5_ramp 7 = .ok (.iload_n 2, 1) := by decide +kernel
theorem dX5_ramp_8 : decode cX5_ramp 8 = .ok (.iconst 0, 1) := by decide +kernel
theorem dX5_ramp_9 : decode cX5_ramp 9 = .ok (.sipush 1000, 3) := by decide +kernel
theorem dX5_ramp_12 : decode cX5_ramp 12 = .ok (.invokestatic 22, 3) := by decide +kernel
theorem dX5_ramp_15 : decode cX5_ramp 15 = .ok (.ifCond .ne 14, 3) := by decide +kernel
theorem dX5_ramp_18 : decode cX5_ramp 18 = .ok (.iload_n 3, 1) := by decide +kernel
theorem dX5_ramp_19 : decode cX5_ramp 19 = .ok (.iconst 0, 1) := by decide +kernel
theorem dX5_ramp_20 : decode cX5_ramp 20 = .ok (.sipush 1000, 3) := by decide +kernel
theorem dX5_ramp_23 : decode cX5_ramp 23 = .ok (.invokestatic 22, 3) := by decide +kernel
theorem dX5_ramp_26 : decode cX5_ramp 26 = .ok (.ifCond .eq 13, 3) := by decide +kernel
theorem dX5_ramp_29 : decode cX5_ramp 29 = .ok (.new 26, 3) := by decide +kernel
theorem dX5_ramp_32 : decode cX5_ramp 32 = .ok (.dup, 1) := by decide +kernel
theorem dX5_ramp_33 : decode cX5_ramp 33 = .ok (.ldc 67, 2) := by decide +kernel
theorem dX5_ramp_35 : decode cX5_ramp 35 = .ok (.invokespecial 30, 3) := by decide +kernel
theorem dX5_ramp_38 : decode cX5_ramp 38 = .ok (.athrow, 1) := by decide +kernel
theorem dX5_ramp_39 : decode cX5_ramp 39 = .ok (.aload 4, 2) := by decide +kernel
theorem dX5_ramp_41 : decode cX5_ramp 41 = .ok (.aload_n 0, 1) := by decide +kernel
theorem dX5_ramp_42 : decode cX5_ramp 42 = .ok (.getfield 69, 3) := by decide +kernel
theorem dX5_ramp_45 : decode cX5_ramp 45 = .ok (.invokevirtual 72, 3) := by decide +kernel
theorem dX5_ramp_48 : decode cX5_ramp 48 = .ok (.istore 5, 2) := by decide +kernel
theorem dX5_ramp_50 : decode cX5_ramp 50 = .ok (.aload 4, 2) := by decide +kernel
theorem dX5_ramp_52 : decode cX5_ramp 52 = .ok (.iload_n 2, 1) := by decide +kernel
theorem dX5_ramp_53 : decode cX5_ramp 53 = .ok (.iload_n 3, 1) := by decide +kernel
theorem dX5_ramp_54 : decode cX5_ramp 54 = .ok (.aload_n 0, 1) := by decide +kernel
theorem dX5_ramp_55 : decode cX5_ramp 55 = .ok (.getfield 69, 3) := by decide +kernel
theorem dX5_ramp_58 : decode cX5_ramp 58 = .ok (.invokevirtual 75, 3) := by decide +kernel
theorem dX5_ramp_61 : decode cX5_ramp 61 = .ok (.iload 5, 2) := by decide +kernel
theorem dX5_ramp_63 : decode cX5_ramp 63 = .ok (.ireturn, 1) := by decide +kernel
theorem dX5_place_0 : decode cX5_place 0 = .ok (.aload_n 0, 1) := by decide +kernel
theorem dX5_place_1 : decode cX5_place 1 = .ok (.iload_n 1, 1) := by decide +kernel
theorem dX5_place_2 : decode cX5_place 2 = .ok (.invokevirtual 45, 3) := by decide +kernel
theorem dX5_place_5 : decode cX5_place 5 = .ok (.astore 5, 2) := by decide +kernel
theorem dX5_place_7 : decode cX5_place 7 = .ok (.iload_n 2, 1) := by decide +kernel
theorem dX5_place_8 : decode cX5_place 8 = .ok (.iconst (-1), 1) := by decide +kernel
theorem dX5_place_9 : decode cX5_place 9 = .ok (.if_icmp .eq 32, 3) := by decide +kernel
theorem dX5_place_12 : decode cX5_place 12 = .ok (.iload_n 2, 1) := by decide +kernel
theorem dX5_place_13 : decode cX5_place 13 = .ok (.iload_n 3, 1) := by decide +kernel
theorem dX5_place_14 : decode cX5_place 14 = .ok (.iload 4, 2) := by decide +kernel
theorem dX5_place_16 : decode cX5_place 16 = .ok (.invokestatic 79, 3) := by decide +kernel
theorem dX5_place_19 : decode cX5_place 19 = .ok (.aload_n 0, 1) := by decide +kernel
theorem dX5_place_20 : decode cX5_place 20 = .ok (.iload_n 1, 1) := by decide +kernel
theorem dX5_place_21 : decode cX5_place 21 = .ok (.iload_n 2, 1) := by decide +kernel
theorem dX5_place_22 : decode cX5_place 22 = .ok (.iload_n 3, 1) := by decide +kernel
theorem dX5_place_23 : decode cX5_place 23 = .ok (.iload 4, 2) := by decide +kernel
theorem dX5_place_25 : decode cX5_place 25 = .ok (.invokevirtual 82, 3) := by decide +kernel
theorem dX5_place_28 : decode cX5_place 28 = .ok (.ifCond .eq 13, 3) := by decide +kernel
theorem dX5_place_31 : decode cX5_place 31 = .ok (.new 37, 3) := by decide +kernel
theorem dX5_place_34 : decode cX5_place 34 = .ok (.dup, 1) := by decide +kernel
theorem dX5_place_35 : decode cX5_place 35 = .ok (.ldc 86, 2) := by decide +kernel
theorem dX5_place_37 : decode cX5_place 37 = .ok (.invokespecial 41, 3) := by decide +kernel
theorem dX5_place_40 : decode cX5_place 40 = .ok (.athrow, 1) := by decide +kernel
theorem dX5_place_41 : decode cX5_place 41 = .ok (.aload 5, 2) := by decide +kernel
theorem dX5_place_43 : decode cX5_place 43 = .ok (.getfield 88, 3) := by decide +kernel
theorem dX5_place_46 : decode cX5_place 46 = .ok (.istore 6, 2) := by decide +kernel
theorem dX5_place_48 : decode cX5_place 48 = .ok (.aload 5, 2) := by decide +kernel
theorem dX5_place_50 : decode cX5_place 50 = .ok (.iload_n 2, 1) := by decide +kernel
theorem dX5_place_51 : decode cX5_place 51 = .ok (.putfield 88, 3) := by decide +kernel
theorem dX5_place_54 : decode cX5_place 54 = .ok (.aload 5, 2) := by decide +kernel
theorem dX5_place_56 : decode cX5_place 56 = .ok (.iload_n 2, 1) := by decide +kernel
theorem dX5_place_57 : decode cX5_place 57 = .ok (.iconst (-1), 1) := by decide +kernel
theorem dX5_place_58 : decode cX5_place 58 = .ok (.if_icmp .ne 7, 3) := by decide +kernel
theorem dX5_place_61 : decode cX5_place 61 = .ok (.iconst 0, 1) := by decide +kernel
theorem dX5_place_62 : decode cX5_place 62 = .ok (.goto 4, 3) := by decide +kernel
theorem dX5_place_65 : decode cX5_place 65 = .ok (.iload_n 3, 1) := by decide +kernel
theorem dX5_place_66 : decode cX5_place 66 = .ok (.putfield 91, 3) := by decide +kernel
theorem dX5_place_69 : decode cX5_place 69 = .ok (.aload 5, 2) := by decide +kernel
theorem dX5_place_71 : decode cX5_place 71 = .ok (.iload_n 2, 1) := by decide +kernel
theorem dX5_place_72 : decode cX5_place 72 = .ok (.iconst (-1), 1) := by decide +kernel
theorem dX5_place_73 : decode cX5_place 73 = .ok (.if_icmp .ne 7, 3) := by decide +kernel
theorem dX5_place_76 : decode cX5_place 76 = .ok (.iconst 0, 1) := by decide +kernel
theorem dX5_place_77 : decode cX5_place 77 = .ok (.goto 5, 3) := by decide +kernel
theorem dX5_place_80 : decode cX5_place 80 = .ok (.iload 4, 2) := by decide +kernel
theorem dX5_place_82 : decode cX5_place 82 = .ok (.putfield 94, 3) := by decide +kernel
theorem dX5_place_85 : decode cX5_place 85 = .ok (.iload 6, 2) := by decide +kernel
theorem dX5_place_87 : decode cX5_place 87 = .ok (.ireturn, 1) := by decide +kernel
theorem dX5_need_0 : decode cX5_need 0 = .ok (.aload_n 0, 1) := by decide +kernel
theorem dX5_need_1 : decode cX5_need 1 = .ok (.iload_n 1, 1) := by decide +kernel
theorem dX5_need_2 : decode cX5_need 2 = .ok (.invokevirtual 45, 3) := by decide +kernel
theorem dX5_need_5 : decode cX5_need 5 = .ok (.astore 4, 2) := by decide +kernel
theorem dX5_need_7 : decode cX5_need 7 = .ok (.iload_n 2, 1) := by decide +kernel
theorem dX5_need_8 : decode cX5_need 8 = .ok (.iconst (-1), 1) := by decide +kernel
theorem dX5_need_9 : decode cX5_need 9 = .ok (.if_icmp .eq 27, 3) := by decide +kernel
theorem dX5_need_12 : decode cX5_need 12 = .ok (.aload_n 0, 1) := by decide +kernel
theorem dX5_need_13 : decode cX5_need 13 = .ok (.iload_n 2, 1) := by decide +kernel
theorem dX5_need_14 : decode cX5_need 14 = .ok (.invokevirtual 45, 3) := by decide +kernel
theorem dX5_need_17 : decode cX5_need 17 = .ok (.iload_n 3, 1) := by decide +kernel
theorem dX5_need_18 : decode cX5_need 18 = .ok (.invokestatic 49, 3) := by decide +kernel
theorem dX5_need_21 : decode cX5_need 21 = .ok (.iload_n 2, 1) := by decide +kernel
theorem dX5_need_22 : decode cX5_need 22 = .ok (.iload_n 1, 1) := by decide +kernel
theorem dX5_need_23 : decode cX5_need 23 = .ok (.if_icmp .lt 13, 3) := by decide +kernel
theorem dX5_need_26 : decode cX5_need 26 = .ok (.new 26, 3) := by decide +kernel
theorem dX5_need_29 : decode cX5_need 29 = .ok (.dup, 1) := by decide +kernel
theorem dX5_need_30 : decode cX5_need 30 = .ok (.ldc 97, 2) := by decide +kernel
theorem dX5_need_32 : decode cX5_need 32 = .ok (.invokespecial 30, 3) := by decide +kernel
theorem dX5_need_35 : decode cX5_need 35 = .ok (.athrow, 1) := by decide +kernel
theorem dX5_need_36 : decode cX5_need 36 = .ok (.aload 4, 2) := by decide +kernel
theorem dX5_need_38 : decode cX5_need 38 = .ok (.getfield 99, 3) := by decide +kernel
theorem dX5_need_41 : decode cX5_need 41 = .ok (.istore 5, 2) := by decide +kernel
theorem dX5_need_43 : decode cX5_need 43 = .ok (.aload 4, 2) := by decide +kernel
theorem dX5_need_45 : decode cX5_need 45 = .ok (.iload_n 2, 1) := by decide +kernel
theorem dX5_need_46 : decode cX5_need 46 = .ok (.putfield 99, 3) := by decide +kernel
theorem dX5_need_49 : decode cX5_need 49 = .ok (.aload 4, 2) := by decide +kernel
theorem dX5_need_51 : decode cX5_need 51 = .ok (.iload_n 3, 1) := by decide +kernel
theorem dX5_need_52 : decode cX5_need 52 = .ok (.putfield 102, 3) := by decide +kernel
theorem dX5_need_55 : decode cX5_need 55 = .ok (.iload 5, 2) := by decide +kernel
theorem dX5_need_57 : decode cX5_need 57 = .ok (.ireturn, 1) := by decide +kernel
theorem dX5_rule_0 : decode cX5_rule 0 = .ok (.aload_n 0, 1) := by decide +kernel
theorem dX5_rule_1 : decode cX5_rule 1 = .ok (.iload_n 1, 1) := by decide +kernel
theorem dX5_rule_2 : decode cX5_rule 2 = .ok (.invokevirtual 45, 3) := by decide +kernel
theorem dX5_rule_5 : decode cX5_rule 5 = .ok (.astore 6, 2) := by decide +kernel
theorem dX5_rule_7 : decode cX5_rule 7 = .ok (.iload 5, 2) := by decide +kernel
theorem dX5_rule_9 : decode cX5_rule 9 = .ok (.iconst (-1), 1) := by decide +kernel
theorem dX5_rule_10 : decode cX5_rule 10 = .ok (.if_icmp .eq 10, 3) := by decide +kernel
theorem dX5_rule_13 : decode cX5_rule 13 = .ok (.aload 6, 2) := by decide +kernel
theorem dX5_rule_15 : decode cX5_rule 15 = .ok (.iload 5, 2) := by decide +kernel
theorem dX5_rule_17 : decode cX5_rule 17 = .ok (.invokestatic 49, 3) := by decide +kernel
theorem dX5_rule_20 : decode cX5_rule 20 = .ok (.iload_n 2, 1) := by decide +kernel
theorem dX5_rule_21 : decode cX5_rule 21 = .ok (.iconst 0, 1) := by decide +kernel
theorem dX5_rule_22 : decode cX5_rule 22 = .ok (.iconst 1, 1) := by decide +kernel
theorem dX5_rule_23 : decode cX5_rule 23 = .ok (.invokestatic 22, 3) := by decide +kernel
theorem dX5_rule_26 : decode cX5_rule 26 = .ok (.ifCond .ne 23, 3) := by decide +kernel
theorem dX5_rule_29 : decode cX5_rule 29 = .ok (.iload_n 3, 1) := by decide +kernel
theorem dX5_rule_30 : decode cX5_rule 30 = .ok (.iconst 1, 1) := by decide +kernel
theorem dX5_rule_31 : decode cX5_rule 31 = .ok (.iconst 3, 1) := by decide +kernel
theorem dX5_rule_32 : decode cX5_rule 32 = .ok (.invokestatic 22, 3) := by decide +kernel
theorem dX5_rule_35 : decode cX5_rule 35 = .ok (.ifCond .ne 14, 3) := by decide +kernel
theorem dX5_rule_38 : decode cX5_rule 38 = .ok (.iload 4, 2) := by decide +kernel
theorem dX5_rule_40 : decode cX5_rule 40 = .ok (.iconst 0, 1) := by decide +kernel
theorem dX5_rule_41 : decode cX5_rule 41 = .ok (.bipush 9, 2) := by decide +kernel
theorem dX5_rule_43 : decode cX5_rule 43 = .ok (.invokestatic 22, 3) := by decide +kernel
theorem dX5_rule_46 : decode cX5_rule 46 = .ok (.ifCond .eq 13, 3) := by decide +kernel
theorem dX5_rule_49 : decode cX5_rule 49 = .ok (.new 26, 3) := by decide +kernel
theorem dX5_rule_52 : decode cX5_rule 52 = .ok (.dup, 1) := by decide +kernel
theorem dX5_rule_53 : decode cX5_rule 53 = .ok (.ldc 105, 2) := by decide +kernel
theorem dX5_rule_55 : decode cX5_rule 55 = .ok (.invokespecial 30, 3) := by decide +kernel
theorem dX5_rule_58 : decode cX5_rule 58 = .ok (.athrow, 1) := by decide +kernel
theorem dX5_rule_59 : decode cX5_rule 59 = .ok (.aload 6, 2) := by decide +kernel
theorem dX5_rule_61 : decode cX5_rule 61 = .ok (.getfield 107, 3) := by decide +kernel
theorem dX5_rule_64 : decode cX5_rule 64 = .ok (.iconst 5, 1) := by decide +kernel
theorem dX5_rule_65 : decode cX5_rule 65 = .ok (.if_icmp .lt 13, 3) := by decide +kernel
theorem dX5_rule_68 : decode cX5_rule 68 = .ok (.new 37, 3) := by decide +kernel
theorem dX5_rule_71 : decode cX5_rule 71 = .ok (.dup, 1) := by decide +kernel
theorem dX5_rule_72 : decode cX5_rule 72 = .ok (.ldc 110, 2) := by decide +kernel
theorem dX5_rule_74 : decode cX5_rule 74 = .ok (.invokespecial 41, 3) := by decide +kernel
theorem dX5_rule_77 : decode cX5_rule 77 = .ok (.athrow, 1) := by decide +kernel
theorem dX5_rule_78 : decode cX5_rule 78 = .ok (.aload 6, 2) := by decide +kernel
theorem dX5_rule_80 : decode cX5_rule 80 = .ok (.new 112, 3) := by decide +kernel
theorem dX5_rule_83 : decode cX5_rule 83 = .ok (.dup, 1) := by decide +kernel
theorem dX5_rule_84 : decode cX5_rule 84 = .ok (.iload_n 2, 1) := by decide +kernel
theorem dX5_rule_85 : decode cX5_rule 85 = .ok (.iload_n 3, 1) := by decide +kernel
theorem dX5_rule_86 : decode cX5_rule 86 = .ok (.iload 4, 2) := by decide +kernel
theorem dX5_rule_88 : decode cX5_rule 88 = .ok (.iload 5, 2) := by decide +kernel
theorem dX5_rule_90 : decode cX5_rule 90 = .ok (.invokespecial 114, 3) := by decide +kernel
theorem dX5_rule_93 : decode cX5_rule 93 = .ok (.invokevirtual 117, 3) := by decide +kernel
theorem dX5_rule_96 : decode cX5_rule 96 = .ok (.aload 6, 2) := by decide +kernel
theorem dX5_rule_98 : decode cX5_rule 98 = .ok (.getfield 107, 3) := by decide +kernel
theorem dX5_rule_101 : decode cX5_rule 101 = .ok (.ireturn, 1) := by decide +kernel
theorem dX5_unrule_0 : decode cX5_unrule 0 = .ok (.aload_n 0, 1) := by decide +kernel
theorem dX5_unrule_1 : decode cX5_unrule 1 = .ok (.iload_n 1, 1) := by decide +kernel
theorem dX5_unrule_2 : decode cX5_unrule 2 = .ok (.invokevirtual 45, 3) := by decide +kernel
theorem dX5_unrule_5 : decode cX5_unrule 5 = .ok (.astore_n 3, 1) := by decide +kernel
theorem dX5_unrule_6 : decode cX5_unrule 6 = .ok (.iload_n 2, 1) := by decide +kernel
theorem dX5_unrule_7 : decode cX5_unrule 7 = .ok (.iconst 0, 1) := by decide +kernel
theorem dX5_unrule_8 : decode cX5_unrule 8 = .ok (.aload_n 3, 1) := by decide +kernel
theorem dX5_unrule_9 : decode cX5_unrule 9 = .ok (.getfield 107, 3) := by decide +kernel
theorem dX5_unrule_12 : decode cX5_unrule 12 = .ok (.iconst 1, 1) := by decide +kernel
theorem dX5_unrule_13 : decode cX5_unrule 13 = .ok (.isub, 1) := by decide +kernel
theorem dX5_unrule_14 : decode cX5_unrule 14 = .ok (.invokestatic 22, 3) := by decide +kernel
theorem dX5_unrule_17 : decode cX5_unrule 17 = .ok (.ifCond .eq 13, 3) := by decide +kernel
theorem dX5_unrule_20 : decode cX5_unrule 20 = .ok (.new 121, 3) := by decide +kernel
theorem dX5_unrule_23 : decode cX5_unrule 23 = .ok (.dup, 1) := by decide +kernel
theorem dX5_unrule_24 : decode cX5_unrule 24 = .ok (.ldc 123, 2) := by decide +kernel
theorem dX5_unrule_26 : decode cX5_unrule 26 = .ok (.invokespecial 125, 3) := by decide +kernel
theorem dX5_unrule_29 : decode cX5_unrule 29 = .ok (.athrow, 1) := by decide +kernel
theorem dX5_unrule_30 : decode cX5_unrule 30 = .ok (.aload_n 3, 1) := by decide +kernel
theorem dX5_unrule_31 : decode cX5_unrule 31 = .ok (.iload_n 2, 1) := by decide +kernel
theorem dX5_unrule_32 : decode cX5_unrule 32 = .ok (.invokevirtual 126, 3) := by decide +kernel
theorem dX5_unrule_35 : decode cX5_unrule 35 = .ok (.aload_n 3, 1) := by decide +kernel
theorem dX5_unrule_36 : decode cX5_unrule 36 = .ok (.getfield 107, 3) := by decide +kernel
theorem dX5_unrule_39 : decode cX5_unrule 39 = .ok (.ireturn, 1) := by decide +kernel
theorem dX5_hold_0 : decode cX5_hold 0 = .ok (.iload_n 1, 1) := by decide +kernel
theorem dX5_hold_1 : decode cX5_hold 1 = .ok (.iconst 0, 1) := by decide +kernel
theorem dX5_hold_2 : decode cX5_hold 2 = .ok (.sipush 1000, 3) := by decide +kernel
theorem dX5_hold_5 : decode cX5_hold 5 = .ok (.invokestatic 22, 3) := by decide +kernel
theorem dX5_hold_8 : decode cX5_hold 8 = .ok (.ifCond .eq 13, 3) := by decide +kernel
theorem dX5_hold_11 : decode cX5_hold 11 = .ok (.new 26, 3) := by decide +kernel
theorem dX5_hold_14 : decode cX5_hold 14 = .ok (.dup, 1) := by decide +kernel
theorem dX5_hold_15 : decode cX5_hold 15 = .ok (.ldc 130, 2) := by decide +kernel
theorem dX5_hold_17 : decode cX5_hold 17 = .ok (.invokespecial 30, 3) := by decide +kernel
theorem dX5_hold_20 : decode cX5_hold 20 = .ok (.athrow, 1) := by decide +kernel
theorem dX5_hold_21 : decode cX5_hold 21 = .ok (.aload_n 0, 1) := by decide +kernel
theorem dX5_hold_22 : decode cX5_hold 22 = .ok (.getfield 132, 3) := by decide +kernel
theorem dX5_hold_25 : decode cX5_hold 25 = .ok (.istore_n 2, 1) := by decide +kernel
theorem dX5_hold_26 : decode cX5_hold 26 = .ok (.aload_n 0, 1) := by decide +kernel
theorem dX5_hold_27 : decode cX5_hold 27 = .ok (.iload_n 1, 1) := by decide +kernel
theorem dX5_hold_28 : decode cX5_hold 28 = .ok (.putfield 132, 3) := by decide +kernel
theorem dX5_hold_31 : decode cX5_hold 31 = .ok (.iload_n 2, 1) := by decide +kernel
theorem dX5_hold_32 : decode cX5_hold 32 = .ok (.ireturn, 1) := by decide +kernel
theorem dX5_goOn_0 : decode cX5_goOn 0 = .ok (.iload_n 1, 1) := by decide +kernel
theorem dX5_goOn_1 : decode cX5_goOn 1 = .ok (.iconst 1, 1) := by decide +kernel
theorem dX5_goOn_2 : decode cX5_goOn 2 = .ok (.bipush 100, 2) := by decide +kernel
theorem dX5_goOn_4 : decode cX5_goOn 4 = .ok (.invokestatic 22, 3) := by decide +kernel
theorem dX5_goOn_7 : decode cX5_goOn 7 = .ok (.ifCond .eq 13, 3) := by decide +kernel
theorem dX5_goOn_10 : decode cX5_goOn 10 = .ok (.new 26, 3) := by decide +kernel
theorem dX5_goOn_13 : decode cX5_goOn 13 = .ok (.dup, 1) := by decide +kernel
theorem dX5_goOn_14 : decode cX5_goOn 14 = .ok (.ldc 135, 2) := by decide +kernel
theorem dX5_goOn_16 : decode cX5_goOn 16 = .ok (.invokespecial 30, 3) := by decide +kernel
theorem dX5_goOn_19 : decode cX5_goOn 19 = .ok (.athrow, 1) := by decide +kernel
theorem dX5_goOn_20 : decode cX5_goOn 20 = .ok (.aload_n 0, 1) := by decide +kernel
theorem dX5_goOn_21 : decode cX5_goOn 21 = .ok (.dup, 1) := by decide +kernel
theorem dX5_goOn_22 : decode cX5_goOn 22 = .ok (.getfield 69, 3) := by decide +kernel
theorem dX5_goOn_25 : decode cX5_goOn 25 = .ok (.iload_n 1, 1) := by decide +kernel
theorem dX5_goOn_26 : decode cX5_goOn 26 = .ok (.iadd, 1) := by decide +kernel
theorem dX5_goOn_27 : decode cX5_goOn 27 = .ok (.putfield 69, 3) := by decide +kernel
theorem dX5_goOn_30 : decode cX5_goOn 30 = .ok (.aload_n 0, 1) := by decide +kernel
theorem dX5_goOn_31 : decode cX5_goOn 31 = .ok (.getfield 69, 3) := by decide +kernel
theorem dX5_goOn_34 : decode cX5_goOn 34 = .ok (.ireturn, 1) := by decide +kernel
theorem dX5_switches_0 : decode cX5_switches 0 = .ok (.aload_n 0, 1) := by decide +kernel
theorem dX5_switches_1 : decode cX5_switches 1 = .ok (.getfield 33, 3) := by decide +kernel
theorem dX5_switches_4 : decode cX5_switches 4 = .ok (.ireturn, 1) := by decide +kernel
theorem dX5_weight_0 : decode cX5_weight 0 = .ok (.aload_n 0, 1) := by decide +kernel
theorem dX5_weight_1 : decode cX5_weight 1 = .ok (.iload_n 1, 1) := by decide +kernel
theorem dX5_weight_2 : decode cX5_weight 2 = .ok (.invokevirtual 45, 3) := by decide +kernel
theorem dX5_weight_5 : decode cX5_weight 5 = .ok (.astore_n 3, 1) := by decide +kernel
theorem dX5_weight_6 : decode cX5_weight 6 = .ok (.aload_n 3, 1) := by decide +kernel
theorem dX5_weight_7 : decode cX5_weight 7 = .ok (.iload_n 2, 1) := by decide +kernel
theorem dX5_weight_8 : decode cX5_weight 8 = .ok (.invokestatic 49, 3) := by decide +kernel
theorem dX5_weight_11 : decode cX5_weight 11 = .ok (.aload_n 3, 1) := by decide +kernel
theorem dX5_weight_12 : decode cX5_weight 12 = .ok (.iload_n 2, 1) := by decide +kernel
theorem dX5_weight_13 : decode cX5_weight 13 = .ok (.invokevirtual 53, 3) := by decide +kernel
theorem dX5_weight_16 : decode cX5_weight 16 = .ok (.ireturn, 1) := by decide +kernel
theorem dX5_share_0 : decode cX5_share 0 = .ok (.aload_n 0, 1) := by decide +kernel
theorem dX5_share_1 : decode cX5_share 1 = .ok (.iload_n 1, 1) := by decide +kernel
theorem dX5_share_2 : decode cX5_share 2 = .ok (.invokevirtual 45, 3) := by decide +kernel
theorem dX5_share_5 : decode cX5_share 5 = .ok (.aload_n 0, 1) := by decide +kernel
theorem dX5_share_6 : decode cX5_share 6 = .ok (.getfield 69, 3) := by decide +kernel
theorem dX5_share_9 : decode cX5_share 9 = .ok (.invokevirtual 72, 3) := by decide +kernel
theorem dX5_share_12 : decode cX5_share 12 = .ok (.ireturn, 1) := by decide +kernel
theorem dX5_left_0 : decode cX5_left 0 = .ok (.iload_n 1, 1) := by decide +kernel
theorem dX5_left_1 : decode cX5_left 1 = .ok (.iconst 0, 1) := by decide +kernel
theorem dX5_left_2 : decode cX5_left 2 = .ok (.iconst 2, 1) := by decide +kernel
theorem dX5_left_3 : decode cX5_left 3 = .ok (.invokestatic 22, 3) := by decide +kernel
theorem dX5_left_6 : decode cX5_left 6 = .ok (.ifCond .eq 13, 3) := by decide +kernel
theorem dX5_left_9 : decode cX5_left 9 = .ok (.new 121, 3) := by decide +kernel
theorem dX5_left_12 : decode cX5_left 12 = .ok (.dup, 1) := by decide +kernel
theorem dX5_left_13 : decode cX5_left 13 = .ok (.ldc 137, 2) := by decide +kernel
theorem dX5_left_15 : decode cX5_left 15 = .ok (.invokespecial 125, 3) := by decide +kernel
theorem dX5_left_18 : decode cX5_left 18 = .ok (.athrow, 1) := by decide +kernel
theorem dX5_left_19 : decode cX5_left 19 = .ok (.sipush 1000, 3) := by decide +kernel
theorem dX5_left_22 : decode cX5_left 22 = .ok (.istore_n 2, 1) := by decide +kernel
theorem dX5_left_23 : decode cX5_left 23 = .ok (.aload_n 0, 1) := by decide +kernel
theorem dX5_left_24 : decode cX5_left 24 = .ok (.getfield 11, 3) := by decide +kernel
theorem dX5_left_27 : decode cX5_left 27 = .ok (.astore_n 3, 1) := by decide +kernel
theorem dX5_left_28 : decode cX5_left 28 = .ok (.aload_n 3, 1) := by decide +kernel
theorem dX5_left_29 : decode cX5_left 29 = .ok (.arraylength, 1) := by decide +kernel
theorem dX5_left_30 : decode cX5_left 30 = .ok (.istore 4, 2) := by decide +kernel
theorem dX5_left_32 : decode cX5_left 32 = .ok (.iconst 0, 1) := by decide +kernel
theorem dX5_left_33 : decode cX5_left 33 = .ok (.istore 5, 2) := by decide +kernel
theorem dX5_left_35 : decode cX5_left 35 = .ok (.iload 5, 2) := by decide +kernel
theorem dX5_left_37 : decode cX5_left 37 = .ok (.iload 4, 2) := by decide +kernel
theorem dX5_left_39 : decode cX5_left 39 = .ok (.if_icmp .ge 43, 3) := by decide +kernel
theorem dX5_left_42 : decode cX5_left 42 = .ok (.aload_n 3, 1) := by decide +kernel
theorem dX5_left_43 : decode cX5_left 43 = .ok (.iload 5, 2) := by decide +kernel
theorem dX5_left_45 : decode cX5_left 45 = .ok (.aaload, 1) := by decide +kernel
theorem dX5_left_46 : decode cX5_left 46 = .ok (.astore 6, 2) := by decide +kernel
theorem dX5_left_48 : decode cX5_left 48 = .ok (.aload 6, 2) := by decide +kernel
theorem dX5_left_50 : decode cX5_left 50 = .ok (.ifnull 26, 3) := by decide +kernel
theorem dX5_left_53 : decode cX5_left 53 = .ok (.aload 6, 2) := by decide +kernel
theorem dX5_left_55 : decode cX5_left 55 = .ok (.getfield 88, 3) := by decide +kernel
theorem dX5_left_58 : decode cX5_left 58 = .ok (.iload_n 1, 1) := by decide +kernel
theorem dX5_left_59 : decode cX5_left 59 = .ok (.if_icmp .ne 17, 3) := by decide +kernel
theorem dX5_left_62 : decode cX5_left 62 = .ok (.iload_n 2, 1) := by decide +kernel
theorem dX5_left_63 : decode cX5_left 63 = .ok (.aload 6, 2) := by decide +kernel
theorem dX5_left_65 : decode cX5_left 65 = .ok (.getfield 94, 3) := by decide +kernel
theorem dX5_left_68 : decode cX5_left 68 = .ok (.aload 6, 2) := by decide +kernel
theorem dX5_left_70 : decode cX5_left 70 = .ok (.getfield 91, 3) := by decide +kernel
theorem dX5_left_73 : decode cX5_left 73 = .ok (.isub, 1) := by decide +kernel
theorem dX5_left_74 : decode cX5_left 74 = .ok (.isub, 1) := by decide +kernel
theorem dX5_left_75 : decode cX5_left 75 = .ok (.istore_n 2, 1) := by decide +kernel
theorem dX5_left_76 : decode cX5_left 76 = .ok (.iinc 5 1, 3) := by decide +kernel
theorem dX5_left_79 : decode cX5_left 79 = .ok (.goto (-44), 3) := by decide +kernel
theorem dX5_left_82 : decode cX5_left 82 = .ok (.iload_n 2, 1) := by decide +kernel
theorem dX5_left_83 : decode cX5_left 83 = .ok (.ireturn, 1) := by decide +kernel
theorem dX5_bucket_0 : decode cX5_bucket 0 = .ok (.iload_n 1, 1) := by decide +kernel
theorem dX5_bucket_1 : decode cX5_bucket 1 = .ok (.iconst 0, 1) := by decide +kernel
theorem dX5_bucket_2 : decode cX5_bucket 2 = .ok (.sipush 999, 3) := by decide +kernel
theorem dX5_bucket_5 : decode cX5_bucket 5 = .ok (.invokestatic 22, 3) := by decide +kernel
theorem dX5_bucket_8 : decode cX5_bucket 8 = .ok (.ifCond .ne 14, 3) := by decide +kernel
theorem dX5_bucket_11 : decode cX5_bucket 11 = .ok (.iload_n 2, 1) := by decide +kernel
theorem dX5_bucket_12 : decode cX5_bucket 12 = .ok (.iconst 0, 1) := by decide +kernel
theorem dX5_bucket_13 : decode cX5_bucket 13 = .ok (.sipush 9999, 3) := by decide +kernel
theorem dX5_bucket_16 : decode cX5_bucket 16 = .ok (.invokestatic 22, 3) := by decide +kernel
theorem dX5_bucket_19 : decode cX5_bucket 19 = .ok (.ifCond .eq 13, 3) := by decide +kernel
theorem dX5_bucket_22 : decode cX5_bucket 22 = .ok (.new 26, 3) := by decide +kernel
theorem dX5_bucket_25 : decode cX5_bucket 25 = .ok (.dup, 1) := by decide +kernel
theorem dX5_bucket_26 : decode cX5_bucket 26 = .ok (.ldc 139, 2) := by decide +kernel
theorem dX5_bucket_28 : decode cX5_bucket 28 = .ok (.invokespecial 30, 3) := by decide +kernel
theorem dX5_bucket_31 : decode cX5_bucket 31 = .ok (.athrow, 1) := by decide +kernel
theorem dX5_bucket_32 : decode cX5_bucket 32 = .ok (.iload_n 1, 1) := by decide +kernel
theorem dX5_bucket_33 : decode cX5_bucket 33 = .ok (.iload_n 2, 1) := by decide +kernel
theorem dX5_bucket_34 : decode cX5_bucket 34 = .ok (.invokestatic 141, 3) := by decide +kernel
theorem dX5_bucket_37 : decode cX5_bucket 37 = .ok (.ireturn, 1) := by decide +kernel
theorem dX5_gets_0 : decode cX5_gets 0 = .ok (.aload_n 0, 1) := by decide +kernel
theorem dX5_gets_1 : decode cX5_gets 1 = .ok (.iload_n 1, 1) := by decide +kernel
theorem dX5_gets_2 : decode cX5_gets 2 = .ok (.invokevirtual 45, 3) := by decide +kernel
theorem dX5_gets_5 : decode cX5_gets 5 = .ok (.astore 5, 2) := by decide +kernel
theorem dX5_gets_7 : decode cX5_gets 7 = .ok (.iload_n 2, 1) := by decide +kernel
theorem dX5_gets_8 : decode cX5_gets 8 = .ok (.iload_n 3, 1) := by decide +kernel
theorem dX5_gets_9 : decode cX5_gets 9 = .ok (.iload 4, 2) := by decide +kernel
theorem dX5_gets_11 : decode cX5_gets 11 = .ok (.invokestatic 145, 3) := by decide +kernel
theorem dX5_gets_14 : decode cX5_gets 14 = .ok (.aload_n 0, 1) := by decide +kernel
theorem dX5_gets_15 : decode cX5_gets 15 = .ok (.getfield 18, 3) := by decide +kernel
theorem dX5_gets_18 : decode cX5_gets 18 = .ok (.iload_n 2, 1) := by decide +kernel
theorem dX5_gets_19 : decode cX5_gets 19 = .ok (.iload_n 3, 1) := by decide +kernel
theorem dX5_gets_20 : decode cX5_gets 20 = .ok (.iload 4, 2) := by decide +kernel
theorem dX5_gets_22 : decode cX5_gets 22 = .ok (.invokevirtual 148, 3) := by decide +kernel
theorem dX5_gets_25 : decode cX5_gets 25 = .ok (.aload_n 0, 1) := by decide +kernel
theorem dX5_gets_26 : decode cX5_gets 26 = .ok (.aload 5, 2) := by decide +kernel
theorem dX5_gets_28 : decode cX5_gets 28 = .ok (.invokevirtual 151, 3) := by decide +kernel
theorem dX5_gets_31 : decode cX5_gets 31 = .ok (.ireturn, 1) := by decide +kernel
theorem dX5_why_0 : decode cX5_why 0 = .ok (.aload_n 0, 1) := by decide +kernel
theorem dX5_why_1 : decode cX5_why 1 = .ok (.iload_n 1, 1) := by decide +kernel
theorem dX5_why_2 : decode cX5_why 2 = .ok (.invokevirtual 45, 3) := by decide +kernel
theorem dX5_why_5 : decode cX5_why 5 = .ok (.astore 5, 2) := by decide +kernel
theorem dX5_why_7 : decode cX5_why 7 = .ok (.iload_n 2, 1) := by decide +kernel
theorem dX5_why_8 : decode cX5_why 8 = .ok (.iload_n 3, 1) := by decide +kernel
theorem dX5_why_9 : decode cX5_why 9 = .ok (.iload 4, 2) := by decide +kernel
theorem dX5_why_11 : decode cX5_why 11 = .ok (.invokestatic 145, 3) := by decide +kernel
theorem dX5_why_14 : decode cX5_why 14 = .ok (.aload_n 0, 1) := by decide +kernel
theorem dX5_why_15 : decode cX5_why 15 = .ok (.getfield 18, 3) := by decide +kernel
theorem dX5_why_18 : decode cX5_why 18 = .ok (.iload_n 2, 1) := by decide +kernel
theorem dX5_why_19 : decode cX5_why 19 = .ok (.iload_n 3, 1) := by decide +kernel
theorem dX5_why_20 : decode cX5_why 20 = .ok (.iload 4, 2) := by decide +kernel
theorem dX5_why_22 : decode cX5_why 22 = .ok (.invokevirtual 148, 3) := by decide +kernel
theorem dX5_why_25 : decode cX5_why 25 = .ok (.aload_n 0, 1) := by decide +kernel
theorem dX5_why_26 : decode cX5_why 26 = .ok (.aload 5, 2) := by decide +kernel
theorem dX5_why_28 : decode cX5_why 28 = .ok (.invokevirtual 155, 3) := by decide +kernel
theorem dX5_why_31 : decode cX5_why 31 = .ok (.ireturn, 1) := by decide +kernel
theorem dX5_holds_0 : decode cX5_holds 0 = .ok (.aload_n 0, 1) := by decide +kernel
theorem dX5_holds_1 : decode cX5_holds 1 = .ok (.iload_n 1, 1) := by decide +kernel
theorem dX5_holds_2 : decode cX5_holds 2 = .ok (.invokevirtual 45, 3) := by decide +kernel
theorem dX5_holds_5 : decode cX5_holds 5 = .ok (.astore 5, 2) := by decide +kernel
theorem dX5_holds_7 : decode cX5_holds 7 = .ok (.iload_n 2, 1) := by decide +kernel
theorem dX5_holds_8 : decode cX5_holds 8 = .ok (.iload_n 3, 1) := by decide +kernel
theorem dX5_holds_9 : decode cX5_holds 9 = .ok (.iload 4, 2) := by decide +kernel
theorem dX5_holds_11 : decode cX5_holds 11 = .ok (.invokestatic 145, 3) := by decide +kernel
theorem dX5_holds_14 : decode cX5_holds 14 = .ok (.aload 5, 2) := by decide +kernel
theorem dX5_holds_16 : decode cX5_holds 16 = .ok (.iload_n 3, 1) := by decide +kernel
theorem dX5_holds_17 : decode cX5_holds 17 = .ok (.iload 4, 2) := by decide +kernel
theorem dX5_holds_19 : decode cX5_holds 19 = .ok (.invokevirtual 158, 3) := by decide +kernel
theorem dX5_holds_22 : decode cX5_holds 22 = .ok (.ireturn, 1) := by decide +kernel
theorem dX5_ask_0 : decode cX5_ask 0 = .ok (.aload_n 0, 1) := by decide +kernel
theorem dX5_ask_1 : decode cX5_ask 1 = .ok (.iload_n 1, 1) := by decide +kernel
theorem dX5_ask_2 : decode cX5_ask 2 = .ok (.invokevirtual 45, 3) := by decide +kernel
theorem dX5_ask_5 : decode cX5_ask 5 = .ok (.astore 5, 2) := by decide +kernel
theorem dX5_ask_7 : decode cX5_ask 7 = .ok (.iload_n 2, 1) := by decide +kernel
theorem dX5_ask_8 : decode cX5_ask 8 = .ok (.iload_n 3, 1) := by decide +kernel
theorem dX5_ask_9 : decode cX5_ask 9 = .ok (.iload 4, 2) := by decide +kernel
theorem dX5_ask_11 : decode cX5_ask 11 = .ok (.invokestatic 145, 3) := by decide +kernel
theorem dX5_ask_14 : decode cX5_ask 14 = .ok (.aload_n 0, 1) := by decide +kernel
theorem dX5_ask_15 : decode cX5_ask 15 = .ok (.getfield 18, 3) := by decide +kernel
theorem dX5_ask_18 : decode cX5_ask 18 = .ok (.iload_n 2, 1) := by decide +kernel
theorem dX5_ask_19 : decode cX5_ask 19 = .ok (.iload_n 3, 1) := by decide +kernel
theorem dX5_ask_20 : decode cX5_ask 20 = .ok (.iload 4, 2) := by decide +kernel
theorem dX5_ask_22 : decode cX5_ask 22 = .ok (.invokevirtual 148, 3) := by decide +kernel
theorem dX5_ask_25 : decode cX5_ask 25 = .ok (.aload_n 0, 1) := by decide +kernel
theorem dX5_ask_26 : decode cX5_ask 26 = .ok (.aload 5, 2) := by decide +kernel
theorem dX5_ask_28 : decode cX5_ask 28 = .ok (.invokevirtual 155, 3) := by decide +kernel
theorem dX5_ask_31 : decode cX5_ask 31 = .ok (.istore 6, 2) := by decide +kernel
theorem dX5_ask_33 : decode cX5_ask 33 = .ok (.aload_n 0, 1) := by decide +kernel
theorem dX5_ask_34 : decode cX5_ask 34 = .ok (.aload 5, 2) := by decide +kernel
theorem dX5_ask_36 : decode cX5_ask 36 = .ok (.iload 6, 2) := by decide +kernel
theorem dX5_ask_38 : decode cX5_ask 38 = .ok (.invokevirtual 161, 3) := by decide +kernel
theorem dX5_ask_41 : decode cX5_ask 41 = .ok (.istore 7, 2) := by decide +kernel
theorem dX5_ask_43 : decode cX5_ask 43 = .ok (.iload 6, 2) := by decide +kernel
theorem dX5_ask_45 : decode cX5_ask 45 = .ok (.bipush 8, 2) := by decide +kernel
theorem dX5_ask_47 : decode cX5_ask 47 = .ok (.if_icmp .ne 39, 3) := by decide +kernel
theorem dX5_ask_50 : decode cX5_ask 50 = .ok (.aload_n 0, 1) := by decide +kernel
theorem dX5_ask_51 : decode cX5_ask 51 = .ok (.getfield 165, 3) := by decide +kernel
theorem dX5_ask_54 : decode cX5_ask 54 = .ok (.bipush 100, 2) := by decide +kernel
theorem dX5_ask_56 : decode cX5_ask 56 = .ok (.if_icmp .ge 30, 3) := by decide +kernel
theorem dX5_ask_59 : decode cX5_ask 59 = .ok (.aload 5, 2) := by decide +kernel
theorem dX5_ask_61 : decode cX5_ask 61 = .ok (.iload_n 2, 1) := by decide +kernel
theorem dX5_ask_62 : decode cX5_ask 62 = .ok (.invokevirtual 168, 3) := by decide +kernel
theorem dX5_ask_65 : decode cX5_ask 65 = .ok (.ifnonnull 21, 3) := by decide +kernel
theorem dX5_ask_68 : decode cX5_ask 68 = .ok (.aload 5, 2) := by decide +kernel
theorem dX5_ask_70 : decode cX5_ask 70 = .ok (.iload_n 2, 1) := by decide +kernel
theorem dX5_ask_71 : decode cX5_ask 71 = .ok (.iload 7, 2) := by decide +kernel
theorem dX5_ask_73 : decode cX5_ask 73 = .ok (.invokevirtual 172, 3) := by decide +kernel
theorem dX5_ask_76 : decode cX5_ask 76 = .ok (.aload_n 0, 1) := by decide +kernel
theorem dX5_ask_77 : decode cX5_ask 77 = .ok (.dup, 1) := by decide +kernel
theorem dX5_ask_78 : decode cX5_ask 78 = .ok (.getfield 165, 3) := by decide +kernel
theorem dX5_ask_81 : decode cX5_ask 81 = .ok (.iconst 1, 1) := by decide +kernel
theorem dX5_ask_82 : decode cX5_ask 82 = .ok (.iadd, 1) := by decide +kernel
theorem dX5_ask_83 : decode cX5_ask 83 = .ok (.putfield 165, 3) := by decide +kernel
theorem dX5_ask_86 : decode cX5_ask 86 = .ok (.iload 7, 2) := by decide +kernel
theorem dX5_ask_88 : decode cX5_ask 88 = .ok (.ireturn, 1) := by decide +kernel
theorem dX5_act_0 : decode cX5_act 0 = .ok (.iload_n 1, 1) := by decide +kernel
theorem dX5_act_1 : decode cX5_act 1 = .ok (.iconst 0, 1) := by decide +kernel
theorem dX5_act_2 : decode cX5_act 2 = .ok (.sipush 9999, 3) := by decide +kernel
theorem dX5_act_5 : decode cX5_act 5 = .ok (.invokestatic 22, 3) := by decide +kernel
theorem dX5_act_8 : decode cX5_act 8 = .ok (.ifCond .ne 13, 3) := by decide +kernel
theorem dX5_act_11 : decode cX5_act 11 = .ok (.iload_n 2, 1) := by decide +kernel
theorem dX5_act_12 : decode cX5_act 12 = .ok (.iconst 0, 1) := by decide +kernel
theorem dX5_act_13 : decode cX5_act 13 = .ok (.bipush 100, 2) := by decide +kernel
theorem dX5_act_15 : decode cX5_act 15 = .ok (.invokestatic 22, 3) := by decide +kernel
theorem dX5_act_18 : decode cX5_act 18 = .ok (.ifCond .eq 13, 3) := by decide +kernel
theorem dX5_act_21 : decode cX5_act 21 = .ok (.new 26, 3) := by decide +kernel
theorem dX5_act_24 : decode cX5_act 24 = .ok (.dup, 1) := by decide +kernel
theorem dX5_act_25 : decode cX5_act 25 = .ok (.ldc 175, 2) := by decide +kernel
theorem dX5_act_27 : decode cX5_act 27 = .ok (.invokespecial 30, 3) := by decide +kernel
theorem dX5_act_30 : decode cX5_act 30 = .ok (.athrow, 1) := by decide +kernel
theorem dX5_act_31 : decode cX5_act 31 = .ok (.iconst 0, 1) := by decide +kernel
theorem dX5_act_32 : decode cX5_act 32 = .ok (.istore_n 3, 1) := by decide +kernel
theorem dX5_act_33 : decode cX5_act 33 = .ok (.aload_n 0, 1) := by decide +kernel
theorem dX5_act_34 : decode cX5_act 34 = .ok (.getfield 11, 3) := by decide +kernel
theorem dX5_act_37 : decode cX5_act 37 = .ok (.astore 4, 2) := by decide +kernel
theorem dX5_act_39 : decode cX5_act 39 = .ok (.aload 4, 2) := by decide +kernel
theorem dX5_act_41 : decode cX5_act 41 = .ok (.arraylength, 1) := by decide +kernel
theorem dX5_act_42 : decode cX5_act 42 = .ok (.istore 5, 2) := by decide +kernel
theorem dX5_act_44 : decode cX5_act 44 = .ok (.iconst 0, 1) := by decide +kernel
theorem dX5_act_45 : decode cX5_act 45 = .ok (.istore 6, 2) := by decide +kernel
theorem dX5_act_47 : decode cX5_act 47 = .ok (.iload 6, 2) := by decide +kernel
theorem dX5_act_49 : decode cX5_act 49 = .ok (.iload 5, 2) := by decide +kernel
theorem dX5_act_51 : decode cX5_act 51 = .ok (.if_icmp .ge 34, 3) := by decide +kernel
theorem dX5_act_54 : decode cX5_act 54 = .ok (.aload 4, 2) := by decide +kernel
theorem dX5_act_56 : decode cX5_act 56 = .ok (.iload 6, 2) := by decide +kernel
theorem dX5_act_58 : decode cX5_act 58 = .ok (.aaload, 1) := by decide +kernel
theorem dX5_act_59 : decode cX5_act 59 = .ok (.astore 7, 2) := by decide +kernel
theorem dX5_act_61 : decode cX5_act 61 = .ok (.aload 7, 2) := by decide +kernel
theorem dX5_act_63 : decode cX5_act 63 = .ok (.ifnull 16, 3) := by decide +kernel
theorem dX5_act_66 : decode cX5_act 66 = .ok (.aload 7, 2) := by decide +kernel
theorem dX5_act_68 : decode cX5_act 68 = .ok (.iload_n 1, 1) := by decide +kernel
theorem dX5_act_69 : decode cX5_act 69 = .ok (.iload_n 2, 1) := by decide +kernel
theorem dX5_act_70 : decode cX5_act 70 = .ok (.invokevirtual 177, 3) := by decide +kernel
theorem dX5_act_73 : decode cX5_act 73 = .ok (.ifCond .eq 6, 3) := by decide +kernel
theorem dX5_act_76 : decode cX5_act 76 = .ok (.iinc 3 1, 3) := by decide +kernel
theorem dX5_act_79 : decode cX5_act 79 = .ok (.iinc 6 1, 3) := by decide +kernel
theorem dX5_act_82 : decode cX5_act 82 = .ok (.goto (-35), 3) := by decide +kernel
theorem dX5_act_85 : decode cX5_act 85 = .ok (.iload_n 3, 1) := by decide +kernel
theorem dX5_act_86 : decode cX5_act 86 = .ok (.ireturn, 1) := by decide +kernel
theorem dX5_arm_0 : decode cX5_arm 0 = .ok (.aload_n 0, 1) := by decide +kernel
theorem dX5_arm_1 : decode cX5_arm 1 = .ok (.iload_n 1, 1) := by decide +kernel
theorem dX5_arm_2 : decode cX5_arm 2 = .ok (.invokevirtual 45, 3) := by decide +kernel
theorem dX5_arm_5 : decode cX5_arm 5 = .ok (.astore_n 3, 1) := by decide +kernel
theorem dX5_arm_6 : decode cX5_arm 6 = .ok (.iload_n 2, 1) := by decide +kernel
theorem dX5_arm_7 : decode cX5_arm 7 = .ok (.iconst 0, 1) := by decide +kernel
theorem dX5_arm_8 : decode cX5_arm 8 = .ok (.sipush 9999, 3) := by decide +kernel
theorem dX5_arm_11 : decode cX5_arm 11 = .ok (.invokestatic 22, 3) := by decide +kernel
theorem dX5_arm_14 : decode cX5_arm 14 = .ok (.ifCond .eq 13, 3) := by decide +kernel
theorem dX5_arm_17 : decode cX5_arm 17 = .ok (.new 26, 3) := by decide +kernel
theorem dX5_arm_20 : decode cX5_arm 20 = .ok (.dup, 1) := by decide +kernel
theorem dX5_arm_21 : decode cX5_arm 21 = .ok (.ldc 181, 2) := by decide +kernel
theorem dX5_arm_23 : decode cX5_arm 23 = .ok (.invokespecial 30, 3) := by decide +kernel
theorem dX5_arm_26 : decode cX5_arm 26 = .ok (.athrow, 1) := by decide +kernel
theorem dX5_arm_27 : decode cX5_arm 27 = .ok (.aload_n 3, 1) := by decide +kernel
theorem dX5_arm_28 : decode cX5_arm 28 = .ok (.iload_n 2, 1) := by decide +kernel
theorem dX5_arm_29 : decode cX5_arm 29 = .ok (.invokevirtual 168, 3) := by decide +kernel
theorem dX5_arm_32 : decode cX5_arm 32 = .ok (.astore 4, 2) := by decide +kernel
theorem dX5_arm_34 : decode cX5_arm 34 = .ok (.aload 4, 2) := by decide +kernel
theorem dX5_arm_36 : decode cX5_arm 36 = .ok (.ifnonnull 7, 3) := by decide +kernel
theorem dX5_arm_39 : decode cX5_arm 39 = .ok (.iconst (-1), 1) := by decide +kernel
theorem dX5_arm_40 : decode cX5_arm 40 = .ok (.goto 8, 3) := by decide +kernel
theorem dX5_arm_43 : decode cX5_arm 43 = .ok (.aload 4, 2) := by decide +kernel
theorem dX5_arm_45 : decode cX5_arm 45 = .ok (.getfield 183, 3) := by decide +kernel
theorem dX5_arm_48 : decode cX5_arm 48 = .ok (.ireturn, 1) := by decide +kernel
theorem dX5_arms_0 : decode cX5_arms 0 = .ok (.aload_n 0, 1) := by decide +kernel
theorem dX5_arms_1 : decode cX5_arms 1 = .ok (.getfield 165, 3) := by decide +kernel
theorem dX5_arms_4 : decode cX5_arms 4 = .ok (.ireturn, 1) := by decide +kernel
theorem dX5_told_0 : decode cX5_told 0 = .ok (.aload_n 0, 1) := by decide +kernel
theorem dX5_told_1 : decode cX5_told 1 = .ok (.iload_n 1, 1) := by decide +kernel
theorem dX5_told_2 : decode cX5_told 2 = .ok (.invokevirtual 45, 3) := by decide +kernel
theorem dX5_told_5 : decode cX5_told 5 = .ok (.astore 4, 2) := by decide +kernel
theorem dX5_told_7 : decode cX5_told 7 = .ok (.aload 4, 2) := by decide +kernel
theorem dX5_told_9 : decode cX5_told 9 = .ok (.iload_n 2, 1) := by decide +kernel
theorem dX5_told_10 : decode cX5_told 10 = .ok (.invokestatic 49, 3) := by decide +kernel
theorem dX5_told_13 : decode cX5_told 13 = .ok (.iload_n 3, 1) := by decide +kernel
theorem dX5_told_14 : decode cX5_told 14 = .ok (.tableswitch 71 0 3 #[30, 40, 50, 60], 30) := by decide +kernel
theorem dX5_told_44 : decode cX5_told 44 = .ok (.aload 4, 2) := by decide +kernel
theorem dX5_told_46 : decode cX5_told 46 = .ok (.getfield 188, 3) := by decide +kernel
theorem dX5_told_49 : decode cX5_told 49 = .ok (.iload_n 2, 1) := by decide +kernel
theorem dX5_told_50 : decode cX5_told 50 = .ok (.invokevirtual 192, 3) := by decide +kernel
theorem dX5_told_53 : decode cX5_told 53 = .ok (.ireturn, 1) := by decide +kernel
theorem dX5_told_54 : decode cX5_told 54 = .ok (.aload 4, 2) := by decide +kernel
theorem dX5_told_56 : decode cX5_told 56 = .ok (.getfield 188, 3) := by decide +kernel
theorem dX5_told_59 : decode cX5_told 59 = .ok (.iload_n 2, 1) := by decide +kernel
theorem dX5_told_60 : decode cX5_told 60 = .ok (.invokevirtual 197, 3) := by decide +kernel
theorem dX5_told_63 : decode cX5_told 63 = .ok (.ireturn, 1) := by decide +kernel
theorem dX5_told_64 : decode cX5_told 64 = .ok (.aload 4, 2) := by decide +kernel
theorem dX5_told_66 : decode cX5_told 66 = .ok (.getfield 188, 3) := by decide +kernel
theorem dX5_told_69 : decode cX5_told 69 = .ok (.iload_n 2, 1) := by decide +kernel
theorem dX5_told_70 : decode cX5_told 70 = .ok (.invokevirtual 200, 3) := by decide +kernel
theorem dX5_told_73 : decode cX5_told 73 = .ok (.ireturn, 1) := by decide +kernel
theorem dX5_told_74 : decode cX5_told 74 = .ok (.aload 4, 2) := by decide +kernel
theorem dX5_told_76 : decode cX5_told 76 = .ok (.getfield 188, 3) := by decide +kernel
theorem dX5_told_79 : decode cX5_told 79 = .ok (.iload_n 2, 1) := by decide +kernel
theorem dX5_told_80 : decode cX5_told 80 = .ok (.invokevirtual 203, 3) := by decide +kernel
theorem dX5_told_83 : decode cX5_told 83 = .ok (.l2i, 1) := by decide +kernel
theorem dX5_told_84 : decode cX5_told 84 = .ok (.ireturn, 1) := by decide +kernel
theorem dX5_told_85 : decode cX5_told 85 = .ok (.new 26, 3) := by decide +kernel
theorem dX5_told_88 : decode cX5_told 88 = .ok (.dup, 1) := by decide +kernel
theorem dX5_told_89 : decode cX5_told 89 = .ok (.ldc 207, 2) := by decide +kernel
theorem dX5_told_91 : decode cX5_told 91 = .ok (.invokespecial 30, 3) := by decide +kernel
theorem dX5_told_94 : decode cX5_told 94 = .ok (.athrow, 1) := by decide +kernel
theorem dX5_mean_0 : decode cX5_mean 0 = .ok (.aload_n 0, 1) := by decide +kernel
theorem dX5_mean_1 : decode cX5_mean 1 = .ok (.iload_n 1, 1) := by decide +kernel
theorem dX5_mean_2 : decode cX5_mean 2 = .ok (.invokevirtual 45, 3) := by decide +kernel
theorem dX5_mean_5 : decode cX5_mean 5 = .ok (.astore_n 3, 1) := by decide +kernel
theorem dX5_mean_6 : decode cX5_mean 6 = .ok (.aload_n 3, 1) := by decide +kernel
theorem dX5_mean_7 : decode cX5_mean 7 = .ok (.iload_n 2, 1) := by decide +kernel
theorem dX5_mean_8 : decode cX5_mean 8 = .ok (.invokestatic 49, 3) := by decide +kernel
theorem dX5_mean_11 : decode cX5_mean 11 = .ok (.aload_n 3, 1) := by decide +kernel
theorem dX5_mean_12 : decode cX5_mean 12 = .ok (.getfield 188, 3) := by decide +kernel
theorem dX5_mean_15 : decode cX5_mean 15 = .ok (.iload_n 2, 1) := by decide +kernel
theorem dX5_mean_16 : decode cX5_mean 16 = .ok (.invokevirtual 209, 3) := by decide +kernel
theorem dX5_mean_19 : decode cX5_mean 19 = .ok (.dreturn, 1) := by decide +kernel
theorem dX5_lift_0 : decode cX5_lift 0 = .ok (.aload_n 0, 1) := by decide +kernel
theorem dX5_lift_1 : decode cX5_lift 1 = .ok (.iload_n 1, 1) := by decide +kernel
theorem dX5_lift_2 : decode cX5_lift 2 = .ok (.invokevirtual 45, 3) := by decide +kernel
theorem dX5_lift_5 : decode cX5_lift 5 = .ok (.astore_n 3, 1) := by decide +kernel
theorem dX5_lift_6 : decode cX5_lift 6 = .ok (.aload_n 3, 1) := by decide +kernel
theorem dX5_lift_7 : decode cX5_lift 7 = .ok (.iload_n 2, 1) := by decide +kernel
theorem dX5_lift_8 : decode cX5_lift 8 = .ok (.invokestatic 49, 3) := by decide +kernel
theorem dX5_lift_11 : decode cX5_lift 11 = .ok (.aload_n 3, 1) := by decide +kernel
theorem dX5_lift_12 : decode cX5_lift 12 = .ok (.getfield 188, 3) := by decide +kernel
theorem dX5_lift_15 : decode cX5_lift 15 = .ok (.iload_n 2, 1) := by decide +kernel
theorem dX5_lift_16 : decode cX5_lift 16 = .ok (.invokevirtual 213, 3) := by decide +kernel
theorem dX5_lift_19 : decode cX5_lift 19 = .ok (.dreturn, 1) := by decide +kernel
theorem dX5_sure_0 : decode cX5_sure 0 = .ok (.aload_n 0, 1) := by decide +kernel
theorem dX5_sure_1 : decode cX5_sure 1 = .ok (.iload_n 1, 1) := by decide +kernel
theorem dX5_sure_2 : decode cX5_sure 2 = .ok (.invokevirtual 45, 3) := by decide +kernel
theorem dX5_sure_5 : decode cX5_sure 5 = .ok (.astore_n 3, 1) := by decide +kernel
theorem dX5_sure_6 : decode cX5_sure 6 = .ok (.aload_n 3, 1) := by decide +kernel
theorem dX5_sure_7 : decode cX5_sure 7 = .ok (.iload_n 2, 1) := by decide +kernel
theorem dX5_sure_8 : decode cX5_sure 8 = .ok (.invokestatic 49, 3) := by decide +kernel
theorem dX5_sure_11 : decode cX5_sure 11 = .ok (.aload_n 3, 1) := by decide +kernel
theorem dX5_sure_12 : decode cX5_sure 12 = .ok (.getfield 188, 3) := by decide +kernel
theorem dX5_sure_15 : decode cX5_sure 15 = .ok (.iload_n 2, 1) := by decide +kernel
theorem dX5_sure_16 : decode cX5_sure 16 = .ok (.invokevirtual 216, 3) := by decide +kernel
theorem dX5_sure_19 : decode cX5_sure 19 = .ok (.dreturn, 1) := by decide +kernel
theorem dX5_bad_0 : decode cX5_bad 0 = .ok (.aload_n 0, 1) := by decide +kernel
theorem dX5_bad_1 : decode cX5_bad 1 = .ok (.iload_n 1, 1) := by decide +kernel
theorem dX5_bad_2 : decode cX5_bad 2 = .ok (.invokevirtual 45, 3) := by decide +kernel
theorem dX5_bad_5 : decode cX5_bad 5 = .ok (.invokevirtual 219, 3) := by decide +kernel
theorem dX5_bad_8 : decode cX5_bad 8 = .ok (.ireturn, 1) := by decide +kernel
theorem dX5_isTrusted_0 : decode cX5_isTrusted 0 = .ok (.aload_n 0, 1) := by decide +kernel
theorem dX5_isTrusted_1 : decode cX5_isTrusted 1 = .ok (.iload_n 1, 1) := by decide +kernel
theorem dX5_isTrusted_2 : decode cX5_isTrusted 2 = .ok (.invokevirtual 45, 3) := by decide +kernel
theorem dX5_isTrusted_5 : decode cX5_isTrusted 5 = .ok (.invokevirtual 223, 3) := by decide +kernel
theorem dX5_isTrusted_8 : decode cX5_isTrusted 8 = .ok (.ireturn, 1) := by decide +kernel
theorem dX5_best_0 : decode cX5_best 0 = .ok (.aload_n 0, 1) := by decide +kernel
theorem dX5_best_1 : decode cX5_best 1 = .ok (.iload_n 1, 1) := by decide +kernel
theorem dX5_best_2 : decode cX5_best 2 = .ok (.invokevirtual 45, 3) := by decide +kernel
theorem dX5_best_5 : decode cX5_best 5 = .ok (.getfield 188, 3) := by decide +kernel
theorem dX5_best_8 : decode cX5_best 8 = .ok (.invokevirtual 227, 3) := by decide +kernel
theorem dX5_best_11 : decode cX5_best 11 = .ok (.ireturn, 1) := by decide +kernel
theorem dX5_reach_0 : decode cX5_reach 0 = .ok (.aload_n 0, 1) := by decide +kernel
theorem dX5_reach_1 : decode cX5_reach 1 = .ok (.iload_n 1, 1) := by decide +kernel
theorem dX5_reach_2 : decode cX5_reach 2 = .ok (.invokevirtual 45, 3) := by decide +kernel
theorem dX5_reach_5 : decode cX5_reach 5 = .ok (.astore 4, 2) := by decide +kernel
theorem dX5_reach_7 : decode cX5_reach 7 = .ok (.aload 4, 2) := by decide +kernel
theorem dX5_reach_9 : decode cX5_reach 9 = .ok (.iload_n 2, 1) := by decide +kernel
theorem dX5_reach_10 : decode cX5_reach 10 = .ok (.invokestatic 49, 3) := by decide +kernel
theorem dX5_reach_13 : decode cX5_reach 13 = .ok (.iload_n 3, 1) := by decide +kernel
theorem dX5_reach_14 : decode cX5_reach 14 = .ok (.invokestatic 230, 3) := by decide +kernel
theorem dX5_reach_17 : decode cX5_reach 17 = .ok (.iconst 0, 1) := by decide +kernel
theorem dX5_reach_18 : decode cX5_reach 18 = .ok (.istore 5, 2) := by decide +kernel
theorem dX5_reach_20 : decode cX5_reach 20 = .ok (.iconst 0, 1) := by decide +kernel
theorem dX5_reach_21 : decode cX5_reach 21 = .ok (.istore 6, 2) := by decide +kernel
theorem dX5_reach_23 : decode cX5_reach 23 = .ok (.iload 6, 2) := by decide +kernel
theorem dX5_reach_25 : decode cX5_reach 25 = .ok (.iload_n 3, 1) := by decide +kernel
theorem dX5_reach_26 : decode cX5_reach 26 = .ok (.if_icmp .ge 31, 3) := by decide +kernel
theorem dX5_reach_29 : decode cX5_reach 29 = .ok (.aload_n 0, 1) := by decide +kernel
theorem dX5_reach_30 : decode cX5_reach 30 = .ok (.getfield 18, 3) := by decide +kernel
theorem dX5_reach_33 : decode cX5_reach 33 = .ok (.iload 6, 2) := by decide +kernel
theorem dX5_reach_35 : decode cX5_reach 35 = .ok (.invokevirtual 233, 3) := by decide +kernel
theorem dX5_reach_38 : decode cX5_reach 38 = .ok (.aload_n 0, 1) := by decide +kernel
theorem dX5_reach_39 : decode cX5_reach 39 = .ok (.aload 4, 2) := by decide +kernel
theorem dX5_reach_41 : decode cX5_reach 41 = .ok (.invokevirtual 151, 3) := by decide +kernel
theorem dX5_reach_44 : decode cX5_reach 44 = .ok (.iload_n 2, 1) := by decide +kernel
theorem dX5_reach_45 : decode cX5_reach 45 = .ok (.if_icmp .ne 6, 3) := by decide +kernel
theorem dX5_reach_48 : decode cX5_reach 48 = .ok (.iinc 5 1, 3) := by decide +kernel
theorem dX5_reach_51 : decode cX5_reach 51 = .ok (.iinc 6 1, 3) := by decide +kernel
theorem dX5_reach_54 : decode cX5_reach 54 = .ok (.goto (-31), 3) := by decide +kernel
theorem dX5_reach_57 : decode cX5_reach 57 = .ok (.iload 5, 2) := by decide +kernel
theorem dX5_reach_59 : decode cX5_reach 59 = .ok (.ireturn, 1) := by decide +kernel
theorem dX5_both_0 : decode cX5_both 0 = .ok (.aload_n 0, 1) := by decide +kernel
theorem dX5_both_1 : decode cX5_both 1 = .ok (.iload_n 1, 1) := by decide +kernel
theorem dX5_both_2 : decode cX5_both 2 = .ok (.invokevirtual 45, 3) := by decide +kernel
theorem dX5_both_5 : decode cX5_both 5 = .ok (.astore 4, 2) := by decide +kernel
theorem dX5_both_7 : decode cX5_both 7 = .ok (.aload_n 0, 1) := by decide +kernel
theorem dX5_both_8 : decode cX5_both 8 = .ok (.iload_n 2, 1) := by decide +kernel
theorem dX5_both_9 : decode cX5_both 9 = .ok (.invokevirtual 45, 3) := by decide +kernel
theorem dX5_both_12 : decode cX5_both 12 = .ok (.astore 5, 2) := by decide +kernel
theorem dX5_both_14 : decode cX5_both 14 = .ok (.iload_n 3, 1) := by decide +kernel
theorem dX5_both_15 : decode cX5_both 15 = .ok (.invokestatic 230, 3) := by decide +kernel
theorem dX5_both_18 : decode cX5_both 18 = .ok (.iconst 0, 1) := by decide +kernel
theorem dX5_both_19 : decode cX5_both 19 = .ok (.istore 6, 2) := by decide +kernel
theorem dX5_both_21 : decode cX5_both 21 = .ok (.iconst 0, 1) := by decide +kernel
theorem dX5_both_22 : decode cX5_both 22 = .ok (.istore 7, 2) := by decide +kernel
theorem dX5_both_24 : decode cX5_both 24 = .ok (.iload 7, 2) := by decide +kernel
theorem dX5_both_26 : decode cX5_both 26 = .ok (.iload_n 3, 1) := by decide +kernel
theorem dX5_both_27 : decode cX5_both 27 = .ok (.if_icmp .ge 43, 3) := by decide +kernel
theorem dX5_both_30 : decode cX5_both 30 = .ok (.aload_n 0, 1) := by decide +kernel
theorem dX5_both_31 : decode cX5_both 31 = .ok (.getfield 18, 3) := by decide +kernel
theorem dX5_both_34 : decode cX5_both 34 = .ok (.iload 7, 2) := by decide +kernel
theorem dX5_both_36 : decode cX5_both 36 = .ok (.invokevirtual 233, 3) := by decide +kernel
theorem dX5_both_39 : decode cX5_both 39 = .ok (.aload_n 0, 1) := by decide +kernel
theorem dX5_both_40 : decode cX5_both 40 = .ok (.aload 4, 2) := by decide +kernel
theorem dX5_both_42 : decode cX5_both 42 = .ok (.invokevirtual 155, 3) := by decide +kernel
theorem dX5_both_45 : decode cX5_both 45 = .ok (.bipush 8, 2) := by decide +kernel
theorem dX5_both_47 : decode cX5_both 47 = .ok (.if_icmp .ne 17, 3) := by decide +kernel
theorem dX5_both_50 : decode cX5_both 50 = .ok (.aload_n 0, 1) := by decide +kernel
theorem dX5_both_51 : decode cX5_both 51 = .ok (.aload 5, 2) := by decide +kernel
theorem dX5_both_53 : decode cX5_both 53 = .ok (.invokevirtual 155, 3) := by decide +kernel
theorem dX5_both_56 : decode cX5_both 56 = .ok (.bipush 8, 2) := by decide +kernel
theorem dX5_both_58 : decode cX5_both 58 = .ok (.if_icmp .ne 6, 3) := by decide +kernel
theorem dX5_both_61 : decode cX5_both 61 = .ok (.iinc 6 1, 3) := by decide +kernel
theorem dX5_both_64 : decode cX5_both 64 = .ok (.iinc 7 1, 3) := by decide +kernel
theorem dX5_both_67 : decode cX5_both 67 = .ok (.goto (-43), 3) := by decide +kernel
theorem dX5_both_70 : decode cX5_both 70 = .ok (.iload 6, 2) := by decide +kernel
theorem dX5_both_72 : decode cX5_both 72 = .ok (.ireturn, 1) := by decide +kernel
theorem dX5_wouldChange_0 : decode cX5_wouldChange 0 = .ok (.aload_n 0, 1) := by decide +kernel
theorem dX5_wouldChange_1 : decode cX5_wouldChange 1 = .ok (.iload_n 1, 1) := by decide +kernel
theorem dX5_wouldChange_2 : decode cX5_wouldChange 2 = .ok (.invokevirtual 45, 3) := by decide +kernel
theorem dX5_wouldChange_5 : decode cX5_wouldChange 5 = .ok (.astore 4, 2) := by decide +kernel
theorem dX5_wouldChange_7 : decode cX5_wouldChange 7 = .ok (.iload_n 2, 1) := by decide +kernel
theorem dX5_wouldChange_8 : decode cX5_wouldChange 8 = .ok (.iconst 0, 1) := by decide +kernel
theorem dX5_wouldChange_9 : decode cX5_wouldChange 9 = .ok (.sipush 1000, 3) := by decide +kernel
theorem dX5_wouldChange_12 : decode cX5_wouldChange 12 = .ok (.invokestatic 22, 3) := by decide +kernel
theorem dX5_wouldChange_15 : decode cX5_wouldChange 15 = .ok (.ifCond .eq 13, 3) := by decide +kernel
theorem dX5_wouldChange_18 : decode cX5_wouldChange 18 = .ok (.new 26, 3) := by decide +kernel
theorem dX5_wouldChange_21 : decode cX5_wouldChange 21 = .ok (.dup, 1) := by decide +kernel
theorem dX5_wouldChange_22 : decode cX5_wouldChange 22 = .ok (.ldc 236, 2) := by decide +kernel
theorem dX5_wouldChange_24 : decode cX5_wouldChange 24 = .ok (.invokespecial 30, 3) := by decide +kernel
theorem dX5_wouldChange_27 : decode cX5_wouldChange 27 = .ok (.athrow, 1) := by decide +kernel
theorem dX5_wouldChange_28 : decode cX5_wouldChange 28 = .ok (.iload_n 3, 1) := by decide +kernel
theorem dX5_wouldChange_29 : decode cX5_wouldChange 29 = .ok (.invokestatic 230, 3) := by decide +kernel
theorem dX5_wouldChange_32 : decode cX5_wouldChange 32 = .ok (.iconst 0, 1) := by decide +kernel
theorem dX5_wouldChange_33 : decode cX5_wouldChange 33 = .ok (.istore 5, 2) := by decide +kernel
theorem dX5_wouldChange_35 : decode cX5_wouldChange 35 = .ok (.iconst 0, 1) := by decide +kernel
theorem dX5_wouldChange_36 : decode cX5_wouldChange 36 = .ok (.istore 6, 2) := by decide +kernel
theorem dX5_wouldChange_38 : decode cX5_wouldChange 38 = .ok (.iload 6, 2) := by decide +kernel
theorem dX5_wouldChange_40 : decode cX5_wouldChange 40 = .ok (.iload_n 3, 1) := by decide +kernel
theorem dX5_wouldChange_41 : decode cX5_wouldChange 41 = .ok (.if_icmp .ge 49, 3) := by decide +kernel
theorem dX5_wouldChange_44 : decode cX5_wouldChange 44 = .ok (.aload_n 0, 1) := by decide +kernel
theorem dX5_wouldChange_45 : decode cX5_wouldChange 45 = .ok (.getfield 18, 3) := by decide +kernel
theorem dX5_wouldChange_48 : decode cX5_wouldChange 48 = .ok (.iload 6, 2) := by decide +kernel
theorem dX5_wouldChange_50 : decode cX5_wouldChange 50 = .ok (.invokevirtual 233, 3) := by decide +kernel
theorem dX5_wouldChange_53 : decode cX5_wouldChange 53 = .ok (.aload_n 0, 1) := by decide +kernel
theorem dX5_wouldChange_54 : decode cX5_wouldChange 54 = .ok (.aload 4, 2) := by decide +kernel
theorem dX5_wouldChange_56 : decode cX5_wouldChange 56 = .ok (.invokevirtual 151, 3) := by decide +kernel
theorem dX5_wouldChange_59 : decode cX5_wouldChange 59 = .ok (.istore 7, 2) := by decide +kernel
theorem dX5_wouldChange_61 : decode cX5_wouldChange 61 = .ok (.aload_n 0, 1) := by decide +kernel
theorem dX5_wouldChange_62 : decode cX5_wouldChange 62 = .ok (.getfield 18, 3) := by decide +kernel
theorem dX5_wouldChange_65 : decode cX5_wouldChange 65 = .ok (.iload_n 1, 1) := by decide +kernel
theorem dX5_wouldChange_66 : decode cX5_wouldChange 66 = .ok (.iload_n 2, 1) := by decide +kernel
theorem dX5_wouldChange_67 : decode cX5_wouldChange 67 = .ok (.invokevirtual 238, 3) := by decide +kernel
theorem dX5_wouldChange_70 : decode cX5_wouldChange 70 = .ok (.aload_n 0, 1) := by decide +kernel
theorem dX5_wouldChange_71 : decode cX5_wouldChange 71 = .ok (.aload 4, 2) := by decide +kernel
theorem dX5_wouldChange_73 : decode cX5_wouldChange 73 = .ok (.invokevirtual 151, 3) := by decide +kernel
theorem dX5_wouldChange_76 : decode cX5_wouldChange 76 = .ok (.iload 7, 2) := by decide +kernel
theorem dX5_wouldChange_78 : decode cX5_wouldChange 78 = .ok (.if_icmp .eq 6, 3) := by decide +kernel
theorem dX5_wouldChange_81 : decode cX5_wouldChange 81 = .ok (.iinc 5 1, 3) := by decide +kernel
theorem dX5_wouldChange_84 : decode cX5_wouldChange 84 = .ok (.iinc 6 1, 3) := by decide +kernel
theorem dX5_wouldChange_87 : decode cX5_wouldChange 87 = .ok (.goto (-49), 3) := by decide +kernel
theorem dX5_wouldChange_90 : decode cX5_wouldChange 90 = .ok (.iload 5, 2) := by decide +kernel
theorem dX5_wouldChange_92 : decode cX5_wouldChange 92 = .ok (.ireturn, 1) := by decide +kernel
theorem dX5_wouldTurn_0 : decode cX5_wouldTurn 0 = .ok (.aload_n 0, 1) := by decide +kernel
theorem dX5_wouldTurn_1 : decode cX5_wouldTurn 1 = .ok (.iload_n 1, 1) := by decide +kernel
theorem dX5_wouldTurn_2 : decode cX5_wouldTurn 2 = .ok (.invokevirtual 45, 3) := by decide +kernel
theorem dX5_wouldTurn_5 : decode cX5_wouldTurn 5 = .ok (.pop, 1) := by decide +kernel
theorem dX5_wouldTurn_6 : decode cX5_wouldTurn 6 = .ok (.iload_n 2, 1) := by decide +kernel
theorem dX5_wouldTurn_7 : decode cX5_wouldTurn 7 = .ok (.invokestatic 230, 3) := by decide +kernel
theorem dX5_wouldTurn_10 : decode cX5_wouldTurn 10 = .ok (.iconst 0, 1) := by decide +kernel
theorem dX5_wouldTurn_11 : decode cX5_wouldTurn 11 = .ok (.istore_n 3, 1) := by decide +kernel
theorem dX5_wouldTurn_12 : decode cX5_wouldTurn 12 = .ok (.iconst 0, 1) := by decide +kernel
theorem dX5_wouldTurn_13 : decode cX5_wouldTurn 13 = .ok (.istore 4, 2) := by decide +kernel
theorem dX5_wouldTurn_15 : decode cX5_wouldTurn 15 = .ok (.iload 4, 2) := by decide +kernel
theorem dX5_wouldTurn_17 : decode cX5_wouldTurn 17 = .ok (.iload_n 2, 1) := by decide +kernel
theorem dX5_wouldTurn_18 : decode cX5_wouldTurn 18 = .ok (.if_icmp .ge 22, 3) := by decide +kernel
theorem dX5_wouldTurn_21 : decode cX5_wouldTurn 21 = .ok (.aload_n 0, 1) := by decide +kernel
theorem dX5_wouldTurn_22 : decode cX5_wouldTurn 22 = .ok (.iload_n 1, 1) := by decide +kernel
theorem dX5_wouldTurn_23 : decode cX5_wouldTurn 23 = .ok (.iload 4, 2) := by decide +kernel
theorem dX5_wouldTurn_25 : decode cX5_wouldTurn 25 = .ok (.invokevirtual 241, 3) := by decide +kernel
theorem dX5_wouldTurn_28 : decode cX5_wouldTurn 28 = .ok (.ifCond .eq 6, 3) := by decide +kernel
theorem dX5_wouldTurn_31 : decode cX5_wouldTurn 31 = .ok (.iinc 3 1, 3) := by decide +kernel
theorem dX5_wouldTurn_34 : decode cX5_wouldTurn 34 = .ok (.iinc 4 1, 3) := by decide +kernel
theorem dX5_wouldTurn_37 : decode cX5_wouldTurn 37 = .ok (.goto (-22), 3) := by decide +kernel
theorem dX5_wouldTurn_40 : decode cX5_wouldTurn 40 = .ok (.iload_n 3, 1) := by decide +kernel
theorem dX5_wouldTurn_41 : decode cX5_wouldTurn 41 = .ok (.ireturn, 1) := by decide +kernel
theorem dX5_shareIn_0 : decode cX5_shareIn 0 = .ok (.aload_n 0, 1) := by decide +kernel
theorem dX5_shareIn_1 : decode cX5_shareIn 1 = .ok (.iload_n 1, 1) := by decide +kernel
theorem dX5_shareIn_2 : decode cX5_shareIn 2 = .ok (.invokevirtual 45, 3) := by decide +kernel
theorem dX5_shareIn_5 : decode cX5_shareIn 5 = .ok (.astore_n 3, 1) := by decide +kernel
theorem dX5_shareIn_6 : decode cX5_shareIn 6 = .ok (.iload_n 2, 1) := by decide +kernel
theorem dX5_shareIn_7 : decode cX5_shareIn 7 = .ok (.iconst 0, 1) := by decide +kernel
theorem dX5_shareIn_8 : decode cX5_shareIn 8 = .ok (.sipush 1000, 3) := by decide +kernel
theorem dX5_shareIn_11 : decode cX5_shareIn 11 = .ok (.invokestatic 22, 3) := by decide +kernel
theorem dX5_shareIn_14 : decode cX5_shareIn 14 = .ok (.ifCond .eq 13, 3) := by decide +kernel
theorem dX5_shareIn_17 : decode cX5_shareIn 17 = .ok (.new 26, 3) := by decide +kernel
theorem dX5_shareIn_20 : decode cX5_shareIn 20 = .ok (.dup, 1) := by decide +kernel
theorem dX5_shareIn_21 : decode cX5_shareIn 21 = .ok (.ldc 135, 2) := by decide +kernel
theorem dX5_shareIn_23 : decode cX5_shareIn 23 = .ok (.invokespecial 30, 3) := by decide +kernel
theorem dX5_shareIn_26 : decode cX5_shareIn 26 = .ok (.athrow, 1) := by decide +kernel
theorem dX5_shareIn_27 : decode cX5_shareIn 27 = .ok (.aload_n 3, 1) := by decide +kernel
theorem dX5_shareIn_28 : decode cX5_shareIn 28 = .ok (.aload_n 0, 1) := by decide +kernel
theorem dX5_shareIn_29 : decode cX5_shareIn 29 = .ok (.getfield 69, 3) := by decide +kernel
theorem dX5_shareIn_32 : decode cX5_shareIn 32 = .ok (.iload_n 2, 1) := by decide +kernel
theorem dX5_shareIn_33 : decode cX5_shareIn 33 = .ok (.iadd, 1) := by decide +kernel
theorem dX5_shareIn_34 : decode cX5_shareIn 34 = .ok (.invokevirtual 72, 3) := by decide +kernel
theorem dX5_shareIn_37 : decode cX5_shareIn 37 = .ok (.ireturn, 1) := by decide +kernel
theorem dX5_digest_0 : decode cX5_digest 0 = .ok (.ldc2_w 244, 3) := by decide +kernel
theorem dX5_digest_3 : decode cX5_digest 3 = .ok (.aload_n 0, 1) := by decide +kernel
theorem dX5_digest_4 : decode cX5_digest 4 = .ok (.invokevirtual 246, 3) := by decide +kernel
theorem dX5_digest_7 : decode cX5_digest 7 = .ok (.i2l, 1) := by decide +kernel
theorem dX5_digest_8 : decode cX5_digest 8 = .ok (.invokestatic 249, 3) := by decide +kernel
theorem dX5_digest_11 : decode cX5_digest 11 = .ok (.lstore_n 1, 1) := by decide +kernel
theorem dX5_digest_12 : decode cX5_digest 12 = .ok (.lload_n 1, 1) := by decide +kernel
theorem dX5_digest_13 : decode cX5_digest 13 = .ok (.aload_n 0, 1) := by decide +kernel
theorem dX5_digest_14 : decode cX5_digest 14 = .ok (.invokevirtual 253, 3) := by decide +kernel
theorem dX5_digest_17 : decode cX5_digest 17 = .ok (.i2l, 1) := by decide +kernel
theorem dX5_digest_18 : decode cX5_digest 18 = .ok (.invokestatic 249, 3) := by decide +kernel
theorem dX5_digest_21 : decode cX5_digest 21 = .ok (.lstore_n 1, 1) := by decide +kernel
theorem dX5_digest_22 : decode cX5_digest 22 = .ok (.iconst 0, 1) := by decide +kernel
theorem dX5_digest_23 : decode cX5_digest 23 = .ok (.istore_n 3, 1) := by decide +kernel
theorem dX5_digest_24 : decode cX5_digest 24 = .ok (.iload_n 3, 1) := by decide +kernel
theorem dX5_digest_25 : decode cX5_digest 25 = .ok (.iconst 3, 1) := by decide +kernel
theorem dX5_digest_26 : decode cX5_digest 26 = .ok (.if_icmp .ge 20, 3) := by decide +kernel
theorem dX5_digest_29 : decode cX5_digest 29 = .ok (.lload_n 1, 1) := by decide +kernel
theorem dX5_digest_30 : decode cX5_digest 30 = .ok (.aload_n 0, 1) := by decide +kernel
theorem dX5_digest_31 : decode cX5_digest 31 = .ok (.iload_n 3, 1) := by decide +kernel
theorem dX5_digest_32 : decode cX5_digest 32 = .ok (.invokevirtual 256, 3) := by decide +kernel
theorem dX5_digest_35 : decode cX5_digest 35 = .ok (.i2l, 1) := by decide +kernel
theorem dX5_digest_36 : decode cX5_digest 36 = .ok (.invokestatic 249, 3) := by decide +kernel
theorem dX5_digest_39 : decode cX5_digest 39 = .ok (.lstore_n 1, 1) := by decide +kernel
theorem dX5_digest_40 : decode cX5_digest 40 = .ok (.iinc 3 1, 3) := by decide +kernel
theorem dX5_digest_43 : decode cX5_digest 43 = .ok (.goto (-19), 3) := by decide +kernel
theorem dX5_digest_46 : decode cX5_digest 46 = .ok (.iconst 0, 1) := by decide +kernel
theorem dX5_digest_47 : decode cX5_digest 47 = .ok (.istore_n 3, 1) := by decide +kernel
theorem dX5_digest_48 : decode cX5_digest 48 = .ok (.iload_n 3, 1) := by decide +kernel
theorem dX5_digest_49 : decode cX5_digest 49 = .ok (.aload_n 0, 1) := by decide +kernel
theorem dX5_digest_50 : decode cX5_digest 50 = .ok (.getfield 33, 3) := by decide +kernel
theorem dX5_digest_53 : decode cX5_digest 53 = .ok (.if_icmp .ge 16, 3) := by decide +kernel
theorem dX5_digest_56 : decode cX5_digest 56 = .ok (.aload_n 0, 1) := by decide +kernel
theorem dX5_digest_57 : decode cX5_digest 57 = .ok (.lload_n 1, 1) := by decide +kernel
theorem dX5_digest_58 : decode cX5_digest 58 = .ok (.iload_n 3, 1) := by decide +kernel
theorem dX5_digest_59 : decode cX5_digest 59 = .ok (.invokevirtual 259, 3) := by decide +kernel
theorem dX5_digest_62 : decode cX5_digest 62 = .ok (.lstore_n 1, 1) := by decide +kernel
theorem dX5_digest_63 : decode cX5_digest 63 = .ok (.iinc 3 1, 3) := by decide +kernel
theorem dX5_digest_66 : decode cX5_digest 66 = .ok (.goto (-18), 3) := by decide +kernel
theorem dX5_digest_69 : decode cX5_digest 69 = .ok (.iconst 0, 1) := by decide +kernel
theorem dX5_digest_70 : decode cX5_digest 70 = .ok (.istore_n 3, 1) := by decide +kernel
theorem dX5_digest_71 : decode cX5_digest 71 = .ok (.iload_n 3, 1) := by decide +kernel
theorem dX5_digest_72 : decode cX5_digest 72 = .ok (.bipush 10, 2) := by decide +kernel
theorem dX5_digest_74 : decode cX5_digest 74 = .ok (.if_icmp .ge 76, 3) := by decide +kernel
theorem dX5_digest_77 : decode cX5_digest 77 = .ok (.iconst 0, 1) := by decide +kernel
theorem dX5_digest_78 : decode cX5_digest 78 = .ok (.istore 4, 2) := by decide +kernel
theorem dX5_digest_80 : decode cX5_digest 80 = .ok (.iload 4, 2) := by decide +kernel
theorem dX5_digest_82 : decode cX5_digest 82 = .ok (.aload_n 0, 1) := by decide +kernel
theorem dX5_digest_83 : decode cX5_digest 83 = .ok (.getfield 33, 3) := by decide +kernel
theorem dX5_digest_86 : decode cX5_digest 86 = .ok (.if_icmp .ge 58, 3) := by decide +kernel
theorem dX5_digest_89 : decode cX5_digest 89 = .ok (.lload_n 1, 1) := by decide +kernel
theorem dX5_digest_90 : decode cX5_digest 90 = .ok (.aload_n 0, 1) := by decide +kernel
theorem dX5_digest_91 : decode cX5_digest 91 = .ok (.iload 4, 2) := by decide +kernel
theorem dX5_digest_93 : decode cX5_digest 93 = .ok (.iload_n 3, 1) := by decide +kernel
theorem dX5_digest_94 : decode cX5_digest 94 = .ok (.iload_n 3, 1) := by decide +kernel
theorem dX5_digest_95 : decode cX5_digest 95 = .ok (.bipush 9, 2) := by decide +kernel
theorem dX5_digest_97 : decode cX5_digest 97 = .ok (.iload_n 3, 1) := by decide +kernel
theorem dX5_digest_98 : decode cX5_digest 98 = .ok (.isub, 1) := by decide +kernel
theorem dX5_digest_99 : decode cX5_digest 99 = .ok (.invokevirtual 263, 3) := by decide +kernel
theorem dX5_digest_102 : decode cX5_digest 102 = .ok (.i2l, 1) := by decide +kernel
theorem dX5_digest_103 : decode cX5_digest 103 = .ok (.invokestatic 249, 3) := by decide +kernel
theorem dX5_digest_106 : decode cX5_digest 106 = .ok (.lstore_n 1, 1) := by decide +kernel
theorem dX5_digest_107 : decode cX5_digest 107 = .ok (.lload_n 1, 1) := by decide +kernel
theorem dX5_digest_108 : decode cX5_digest 108 = .ok (.aload_n 0, 1) := by decide +kernel
theorem dX5_digest_109 : decode cX5_digest 109 = .ok (.iload 4, 2) := by decide +kernel
theorem dX5_digest_111 : decode cX5_digest 111 = .ok (.iload_n 3, 1) := by decide +kernel
theorem dX5_digest_112 : decode cX5_digest 112 = .ok (.iload_n 3, 1) := by decide +kernel
theorem dX5_digest_113 : decode cX5_digest 113 = .ok (.bipush 9, 2) := by decide +kernel
theorem dX5_digest_115 : decode cX5_digest 115 = .ok (.iload_n 3, 1) := by decide +kernel
theorem dX5_digest_116 : decode cX5_digest 116 = .ok (.isub, 1) := by decide +kernel
theorem dX5_digest_117 : decode cX5_digest 117 = .ok (.invokevirtual 267, 3) := by decide +kernel
theorem dX5_digest_120 : decode cX5_digest 120 = .ok (.i2l, 1) := by decide +kernel
theorem dX5_digest_121 : decode cX5_digest 121 = .ok (.invokestatic 249, 3) := by decide +kernel
theorem dX5_digest_124 : decode cX5_digest 124 = .ok (.lstore_n 1, 1) := by decide +kernel
theorem dX5_digest_125 : decode cX5_digest 125 = .ok (.lload_n 1, 1) := by decide +kernel
theorem dX5_digest_126 : decode cX5_digest 126 = .ok (.aload_n 0, 1) := by decide +kernel
theorem dX5_digest_127 : decode cX5_digest 127 = .ok (.iload 4, 2) := by decide +kernel
theorem dX5_digest_129 : decode cX5_digest 129 = .ok (.iload_n 3, 1) := by decide +kernel
theorem dX5_digest_130 : decode cX5_digest 130 = .ok (.invokevirtual 270, 3) := by decide +kernel
theorem dX5_digest_133 : decode cX5_digest 133 = .ok (.i2l, 1) := by decide +kernel
theorem dX5_digest_134 : decode cX5_digest 134 = .ok (.invokestatic 249, 3) := by decide +kernel
theorem dX5_digest_137 : decode cX5_digest 137 = .ok (.lstore_n 1, 1) := by decide +kernel
theorem dX5_digest_138 : decode cX5_digest 138 = .ok (.iinc 4 1, 3) := by decide +kernel
theorem dX5_digest_141 : decode cX5_digest 141 = .ok (.goto (-61), 3) := by decide +kernel
theorem dX5_digest_144 : decode cX5_digest 144 = .ok (.iinc 3 1, 3) := by decide +kernel
theorem dX5_digest_147 : decode cX5_digest 147 = .ok (.goto (-76), 3) := by decide +kernel
theorem dX5_digest_150 : decode cX5_digest 150 = .ok (.lload_n 1, 1) := by decide +kernel
theorem dX5_digest_151 : decode cX5_digest 151 = .ok (.lreturn, 1) := by decide +kernel
theorem dX5_withSwitch_0 : decode cX5_withSwitch 0 = .ok (.lload_n 1, 1) := by decide +kernel
theorem dX5_withSwitch_1 : decode cX5_withSwitch 1 = .ok (.aload_n 0, 1) := by decide +kernel
theorem dX5_withSwitch_2 : decode cX5_withSwitch 2 = .ok (.iload_n 3, 1) := by decide +kernel
theorem dX5_withSwitch_3 : decode cX5_withSwitch 3 = .ok (.invokevirtual 273, 3) := by decide +kernel
theorem dX5_withSwitch_6 : decode cX5_withSwitch 6 = .ok (.i2l, 1) := by decide +kernel
theorem dX5_withSwitch_7 : decode cX5_withSwitch 7 = .ok (.invokestatic 249, 3) := by decide +kernel
theorem dX5_withSwitch_10 : decode cX5_withSwitch 10 = .ok (.lstore 4, 2) := by decide +kernel
theorem dX5_withSwitch_12 : decode cX5_withSwitch 12 = .ok (.lload 4, 2) := by decide +kernel
theorem dX5_withSwitch_14 : decode cX5_withSwitch 14 = .ok (.aload_n 0, 1) := by decide +kernel
theorem dX5_withSwitch_15 : decode cX5_withSwitch 15 = .ok (.iload_n 3, 1) := by decide +kernel
theorem dX5_withSwitch_16 : decode cX5_withSwitch 16 = .ok (.invokevirtual 276, 3) := by decide +kernel
theorem dX5_withSwitch_19 : decode cX5_withSwitch 19 = .ok (.i2l, 1) := by decide +kernel
theorem dX5_withSwitch_20 : decode cX5_withSwitch 20 = .ok (.invokestatic 249, 3) := by decide +kernel
theorem dX5_withSwitch_23 : decode cX5_withSwitch 23 = .ok (.lstore 4, 2) := by decide +kernel
theorem dX5_withSwitch_25 : decode cX5_withSwitch 25 = .ok (.lload 4, 2) := by decide +kernel
theorem dX5_withSwitch_27 : decode cX5_withSwitch 27 = .ok (.aload_n 0, 1) := by decide +kernel
theorem dX5_withSwitch_28 : decode cX5_withSwitch 28 = .ok (.iload_n 3, 1) := by decide +kernel
theorem dX5_withSwitch_29 : decode cX5_withSwitch 29 = .ok (.invokevirtual 279, 3) := by decide +kernel
theorem dX5_withSwitch_32 : decode cX5_withSwitch 32 = .ok (.ifCond .eq 7, 3) := by decide +kernel
theorem dX5_withSwitch_35 : decode cX5_withSwitch 35 = .ok (.lconst 1, 1) := by decide +kernel
theorem dX5_withSwitch_36 : decode cX5_withSwitch 36 = .ok (.goto 4, 3) := by decide +kernel
theorem dX5_withSwitch_39 : decode cX5_withSwitch 39 = .ok (.lconst 0, 1) := by decide +kernel
theorem dX5_withSwitch_40 : decode cX5_withSwitch 40 = .ok (.invokestatic 249, 3) := by decide +kernel
theorem dX5_withSwitch_43 : decode cX5_withSwitch 43 = .ok (.lstore 4, 2) := by decide +kernel
theorem dX5_withSwitch_45 : decode cX5_withSwitch 45 = .ok (.lload 4, 2) := by decide +kernel
theorem dX5_withSwitch_47 : decode cX5_withSwitch 47 = .ok (.aload_n 0, 1) := by decide +kernel
theorem dX5_withSwitch_48 : decode cX5_withSwitch 48 = .ok (.iload_n 3, 1) := by decide +kernel
theorem dX5_withSwitch_49 : decode cX5_withSwitch 49 = .ok (.invokevirtual 283, 3) := by decide +kernel
theorem dX5_withSwitch_52 : decode cX5_withSwitch 52 = .ok (.i2l, 1) := by decide +kernel
theorem dX5_withSwitch_53 : decode cX5_withSwitch 53 = .ok (.invokestatic 249, 3) := by decide +kernel
theorem dX5_withSwitch_56 : decode cX5_withSwitch 56 = .ok (.lstore 4, 2) := by decide +kernel
theorem dX5_withSwitch_58 : decode cX5_withSwitch 58 = .ok (.aload_n 0, 1) := by decide +kernel
theorem dX5_withSwitch_59 : decode cX5_withSwitch 59 = .ok (.iload_n 3, 1) := by decide +kernel
theorem dX5_withSwitch_60 : decode cX5_withSwitch 60 = .ok (.invokevirtual 45, 3) := by decide +kernel
theorem dX5_withSwitch_63 : decode cX5_withSwitch 63 = .ok (.getfield 286, 3) := by decide +kernel
theorem dX5_withSwitch_66 : decode cX5_withSwitch 66 = .ok (.istore 6, 2) := by decide +kernel
theorem dX5_withSwitch_68 : decode cX5_withSwitch 68 = .ok (.iconst 0, 1) := by decide +kernel
theorem dX5_withSwitch_69 : decode cX5_withSwitch 69 = .ok (.istore 7, 2) := by decide +kernel
theorem dX5_withSwitch_71 : decode cX5_withSwitch 71 = .ok (.iload 7, 2) := by decide +kernel
theorem dX5_withSwitch_73 : decode cX5_withSwitch 73 = .ok (.iload 6, 2) := by decide +kernel
theorem dX5_withSwitch_75 : decode cX5_withSwitch 75 = .ok (.if_icmp .ge 73, 3) := by decide +kernel
theorem dX5_withSwitch_78 : decode cX5_withSwitch 78 = .ok (.lload 4, 2) := by decide +kernel
theorem dX5_withSwitch_80 : decode cX5_withSwitch 80 = .ok (.aload_n 0, 1) := by decide +kernel
theorem dX5_withSwitch_81 : decode cX5_withSwitch 81 = .ok (.iload_n 3, 1) := by decide +kernel
theorem dX5_withSwitch_82 : decode cX5_withSwitch 82 = .ok (.iload 7, 2) := by decide +kernel
theorem dX5_withSwitch_84 : decode cX5_withSwitch 84 = .ok (.invokevirtual 289, 3) := by decide +kernel
theorem dX5_withSwitch_87 : decode cX5_withSwitch 87 = .ok (.i2l, 1) := by decide +kernel
theorem dX5_withSwitch_88 : decode cX5_withSwitch 88 = .ok (.invokestatic 249, 3) := by decide +kernel
theorem dX5_withSwitch_91 : decode cX5_withSwitch 91 = .ok (.lstore 4, 2) := by decide +kernel
theorem dX5_withSwitch_93 : decode cX5_withSwitch 93 = .ok (.iconst 0, 1) := by decide +kernel
theorem dX5_withSwitch_94 : decode cX5_withSwitch 94 = .ok (.istore 8, 2) := by decide +kernel
theorem dX5_withSwitch_96 : decode cX5_withSwitch 96 = .ok (.iload 8, 2) := by decide +kernel
theorem dX5_withSwitch_98 : decode cX5_withSwitch 98 = .ok (.iconst 3, 1) := by decide +kernel
theorem dX5_withSwitch_99 : decode cX5_withSwitch 99 = .ok (.if_icmp .gt 26, 3) := by decide +kernel
theorem dX5_withSwitch_102 : decode cX5_withSwitch 102 = .ok (.lload 4, 2) := by decide +kernel
theorem dX5_withSwitch_104 : decode cX5_withSwitch 104 = .ok (.aload_n 0, 1) := by decide +kernel
theorem dX5_withSwitch_105 : decode cX5_withSwitch 105 = .ok (.iload_n 3, 1) := by decide +kernel
theorem dX5_withSwitch_106 : decode cX5_withSwitch 106 = .ok (.iload 7, 2) := by decide +kernel
theorem dX5_withSwitch_108 : decode cX5_withSwitch 108 = .ok (.iload 8, 2) := by decide +kernel
theorem dX5_withSwitch_110 : decode cX5_withSwitch 110 = .ok (.invokevirtual 292, 3) := by decide +kernel
theorem dX5_withSwitch_113 : decode cX5_withSwitch 113 = .ok (.i2l, 1) := by decide +kernel
theorem dX5_withSwitch_114 : decode cX5_withSwitch 114 = .ok (.invokestatic 249, 3) := by decide +kernel
theorem dX5_withSwitch_117 : decode cX5_withSwitch 117 = .ok (.lstore 4, 2) := by decide +kernel
theorem dX5_withSwitch_119 : decode cX5_withSwitch 119 = .ok (.iinc 8 1, 3) := by decide +kernel
theorem dX5_withSwitch_122 : decode cX5_withSwitch 122 = .ok (.goto (-26), 3) := by decide +kernel
theorem dX5_withSwitch_125 : decode cX5_withSwitch 125 = .ok (.lload 4, 2) := by decide +kernel
theorem dX5_withSwitch_127 : decode cX5_withSwitch 127 = .ok (.aload_n 0, 1) := by decide +kernel
theorem dX5_withSwitch_128 : decode cX5_withSwitch 128 = .ok (.iload_n 3, 1) := by decide +kernel
theorem dX5_withSwitch_129 : decode cX5_withSwitch 129 = .ok (.iload 7, 2) := by decide +kernel
theorem dX5_withSwitch_131 : decode cX5_withSwitch 131 = .ok (.bipush 20, 2) := by decide +kernel
theorem dX5_withSwitch_133 : decode cX5_withSwitch 133 = .ok (.invokevirtual 296, 3) := by decide +kernel
theorem dX5_withSwitch_136 : decode cX5_withSwitch 136 = .ok (.i2l, 1) := by decide +kernel
theorem dX5_withSwitch_137 : decode cX5_withSwitch 137 = .ok (.invokestatic 249, 3) := by decide +kernel
theorem dX5_withSwitch_140 : decode cX5_withSwitch 140 = .ok (.lstore 4, 2) := by decide +kernel
theorem dX5_withSwitch_142 : decode cX5_withSwitch 142 = .ok (.iinc 7 1, 3) := by decide +kernel
theorem dX5_withSwitch_145 : decode cX5_withSwitch 145 = .ok (.goto (-74), 3) := by decide +kernel
theorem dX5_withSwitch_148 : decode cX5_withSwitch 148 = .ok (.lload 4, 2) := by decide +kernel
theorem dX5_withSwitch_150 : decode cX5_withSwitch 150 = .ok (.lreturn, 1) := by decide +kernel
theorem dX5_withNext_0 : decode cX5_withNext 0 = .ok (.lload_n 0, 1) := by decide +kernel
theorem dX5_withNext_1 : decode cX5_withNext 1 = .ok (.ldc2_w 299, 3) := by decide +kernel
theorem dX5_withNext_4 : decode cX5_withNext 4 = .ok (.lmul, 1) := by decide +kernel
theorem dX5_withNext_5 : decode cX5_withNext 5 = .ok (.lload_n 2, 1) := by decide +kernel
theorem dX5_withNext_6 : decode cX5_withNext 6 = .ok (.ladd, 1) := by decide +kernel
theorem dX5_withNext_7 : decode cX5_withNext 7 = .ok (.lreturn, 1) := by decide +kernel
theorem dX5_isOutside_0 : decode cX5_isOutside 0 = .ok (.iload_n 0, 1) := by decide +kernel
theorem dX5_isOutside_1 : decode cX5_isOutside 1 = .ok (.iload_n 1, 1) := by decide +kernel
theorem dX5_isOutside_2 : decode cX5_isOutside 2 = .ok (.if_icmp .lt 8, 3) := by decide +kernel
theorem dX5_isOutside_5 : decode cX5_isOutside 5 = .ok (.iload_n 0, 1) := by decide +kernel
theorem dX5_isOutside_6 : decode cX5_isOutside 6 = .ok (.iload_n 2, 1) := by decide +kernel
theorem dX5_isOutside_7 : decode cX5_isOutside 7 = .ok (.if_icmp .le 7, 3) := by decide +kernel
theorem dX5_isOutside_10 : decode cX5_isOutside 10 = .ok (.iconst 1, 1) := by decide +kernel
theorem dX5_isOutside_11 : decode cX5_isOutside 11 = .ok (.goto 4, 3) := by decide +kernel
theorem dX5_isOutside_14 : decode cX5_isOutside 14 = .ok (.iconst 0, 1) := by decide +kernel
theorem dX5_isOutside_15 : decode cX5_isOutside 15 = .ok (.ireturn, 1) := by decide +kernel
theorem dX5_bucketOf_0 : decode cX5_bucketOf 0 = .ok (.iload_n 0, 1) := by decide +kernel
theorem dX5_bucketOf_1 : decode cX5_bucketOf 1 = .ok (.sipush 7919, 3) := by decide +kernel
theorem dX5_bucketOf_4 : decode cX5_bucketOf 4 = .ok (.imul, 1) := by decide +kernel
theorem dX5_bucketOf_5 : decode cX5_bucketOf 5 = .ok (.iload_n 1, 1) := by decide +kernel
theorem dX5_bucketOf_6 : decode cX5_bucketOf 6 = .ok (.bipush 31, 2) := by decide +kernel
theorem dX5_bucketOf_8 : decode cX5_bucketOf 8 = .ok (.imul, 1) := by decide +kernel
theorem dX5_bucketOf_9 : decode cX5_bucketOf 9 = .ok (.iadd, 1) := by decide +kernel
theorem dX5_bucketOf_10 : decode cX5_bucketOf 10 = .ok (.bipush 17, 2) := by decide +kernel
theorem dX5_bucketOf_12 : decode cX5_bucketOf 12 = .ok (.iadd, 1) := by decide +kernel
theorem dX5_bucketOf_13 : decode cX5_bucketOf 13 = .ok (.sipush 10007, 3) := by decide +kernel
theorem dX5_bucketOf_16 : decode cX5_bucketOf 16 = .ok (.irem, 1) := by decide +kernel
theorem dX5_bucketOf_17 : decode cX5_bucketOf 17 = .ok (.istore_n 2, 1) := by decide +kernel
theorem dX5_bucketOf_18 : decode cX5_bucketOf 18 = .ok (.iload_n 2, 1) := by decide +kernel
theorem dX5_bucketOf_19 : decode cX5_bucketOf 19 = .ok (.iload_n 2, 1) := by decide +kernel
theorem dX5_bucketOf_20 : decode cX5_bucketOf 20 = .ok (.imul, 1) := by decide +kernel
theorem dX5_bucketOf_21 : decode cX5_bucketOf 21 = .ok (.iload_n 0, 1) := by decide +kernel
theorem dX5_bucketOf_22 : decode cX5_bucketOf 22 = .ok (.iadd, 1) := by decide +kernel
theorem dX5_bucketOf_23 : decode cX5_bucketOf 23 = .ok (.iconst 3, 1) := by decide +kernel
theorem dX5_bucketOf_24 : decode cX5_bucketOf 24 = .ok (.iload_n 1, 1) := by decide +kernel
theorem dX5_bucketOf_25 : decode cX5_bucketOf 25 = .ok (.imul, 1) := by decide +kernel
theorem dX5_bucketOf_26 : decode cX5_bucketOf 26 = .ok (.iadd, 1) := by decide +kernel
theorem dX5_bucketOf_27 : decode cX5_bucketOf 27 = .ok (.sipush 10007, 3) := by decide +kernel
theorem dX5_bucketOf_30 : decode cX5_bucketOf 30 = .ok (.irem, 1) := by decide +kernel
theorem dX5_bucketOf_31 : decode cX5_bucketOf 31 = .ok (.istore_n 3, 1) := by decide +kernel
theorem dX5_bucketOf_32 : decode cX5_bucketOf 32 = .ok (.iload_n 3, 1) := by decide +kernel
theorem dX5_bucketOf_33 : decode cX5_bucketOf 33 = .ok (.sipush 1000, 3) := by decide +kernel
theorem dX5_bucketOf_36 : decode cX5_bucketOf 36 = .ok (.irem, 1) := by decide +kernel
theorem dX5_bucketOf_37 : decode cX5_bucketOf 37 = .ok (.ireturn, 1) := by decide +kernel
theorem dX5_switchAt_0 : decode cX5_switchAt 0 = .ok (.iload_n 1, 1) := by decide +kernel
theorem dX5_switchAt_1 : decode cX5_switchAt 1 = .ok (.ifCond .lt 12, 3) := by decide +kernel
theorem dX5_switchAt_4 : decode cX5_switchAt 4 = .ok (.iload_n 1, 1) := by decide +kernel
theorem dX5_switchAt_5 : decode cX5_switchAt 5 = .ok (.aload_n 0, 1) := by decide +kernel
theorem dX5_switchAt_6 : decode cX5_switchAt 6 = .ok (.getfield 11, 3) := by decide +kernel
theorem dX5_switchAt_9 : decode cX5_switchAt 9 = .ok (.arraylength, 1) := by decide +kernel
theorem dX5_switchAt_10 : decode cX5_switchAt 10 = .ok (.if_icmp .lt 7, 3) := by decide +kernel
theorem dX5_switchAt_13 : decode cX5_switchAt 13 = .ok (.aconst_null, 1) := by decide +kernel
theorem dX5_switchAt_14 : decode cX5_switchAt 14 = .ok (.goto 9, 3) := by decide +kernel
theorem dX5_switchAt_17 : decode cX5_switchAt 17 = .ok (.aload_n 0, 1) := by decide +kernel
theorem dX5_switchAt_18 : decode cX5_switchAt 18 = .ok (.getfield 11, 3) := by decide +kernel
theorem dX5_switchAt_21 : decode cX5_switchAt 21 = .ok (.iload_n 1, 1) := by decide +kernel
theorem dX5_switchAt_22 : decode cX5_switchAt 22 = .ok (.aaload, 1) := by decide +kernel
theorem dX5_switchAt_23 : decode cX5_switchAt 23 = .ok (.areturn, 1) := by decide +kernel
theorem dX5_known_0 : decode cX5_known 0 = .ok (.aload_n 0, 1) := by decide +kernel
theorem dX5_known_1 : decode cX5_known 1 = .ok (.iload_n 1, 1) := by decide +kernel
theorem dX5_known_2 : decode cX5_known 2 = .ok (.invokevirtual 301, 3) := by decide +kernel
theorem dX5_known_5 : decode cX5_known 5 = .ok (.astore_n 2, 1) := by decide +kernel
theorem dX5_known_6 : decode cX5_known 6 = .ok (.aload_n 2, 1) := by decide +kernel
theorem dX5_known_7 : decode cX5_known 7 = .ok (.ifnonnull 14, 3) := by decide +kernel
theorem dX5_known_10 : decode cX5_known 10 = .ok (.new 121, 3) := by decide +kernel
theorem dX5_known_13 : decode cX5_known 13 = .ok (.dup, 1) := by decide +kernel
theorem dX5_known_14 : decode cX5_known 14 = .ok (.ldc_w 304, 3) := by decide +kernel
theorem dX5_known_17 : decode cX5_known 17 = .ok (.invokespecial 125, 3) := by decide +kernel
theorem dX5_known_20 : decode cX5_known 20 = .ok (.athrow, 1) := by decide +kernel
theorem dX5_known_21 : decode cX5_known 21 = .ok (.aload_n 2, 1) := by decide +kernel
theorem dX5_known_22 : decode cX5_known 22 = .ok (.areturn, 1) := by decide +kernel
theorem dX5_checkVariant_0 : decode cX5_checkVariant 0 = .ok (.iload_n 1, 1) := by decide +kernel
theorem dX5_checkVariant_1 : decode cX5_checkVariant 1 = .ok (.iconst 0, 1) := by decide +kernel
theorem dX5_checkVariant_2 : decode cX5_checkVariant 2 = .ok (.aload_n 0, 1) := by decide +kernel
theorem dX5_checkVariant_3 : decode cX5_checkVariant 3 = .ok (.getfield 286, 3) := by decide +kernel
theorem dX5_checkVariant_6 : decode cX5_checkVariant 6 = .ok (.iconst 1, 1) := by decide +kernel
theorem dX5_checkVariant_7 : decode cX5_checkVariant 7 = .ok (.isub, 1) := by decide +kernel
theorem dX5_checkVariant_8 : decode cX5_checkVariant 8 = .ok (.invokestatic 22, 3) := by decide +kernel
theorem dX5_checkVariant_11 : decode cX5_checkVariant 11 = .ok (.ifCond .eq 14, 3) := by decide +kernel
theorem dX5_checkVariant_14 : decode cX5_checkVariant 14 = .ok (.new 121, 3) := by decide +kernel
theorem dX5_checkVariant_17 : decode cX5_checkVariant 17 = .ok (.dup, 1) := by decide +kernel
theorem dX5_checkVariant_18 : decode cX5_checkVariant 18 = .ok (.ldc_w 306, 3) := by decide +kernel
theorem dX5_checkVariant_21 : decode cX5_checkVariant 21 = .ok (.invokespecial 125, 3) := by decide +kernel
theorem dX5_checkVariant_24 : decode cX5_checkVariant 24 = .ok (.athrow, 1) := by decide +kernel
theorem dX5_checkVariant_25 : decode cX5_checkVariant 25 = .ok (.return_, 1) := by decide +kernel
theorem dX5_checkAsker_0 : decode cX5_checkAsker 0 = .ok (.iload_n 0, 1) := by decide +kernel
theorem dX5_checkAsker_1 : decode cX5_checkAsker 1 = .ok (.iconst 0, 1) := by decide +kernel
theorem dX5_checkAsker_2 : decode cX5_checkAsker 2 = .ok (.sipush 9999, 3) := by decide +kernel
theorem dX5_checkAsker_5 : decode cX5_checkAsker 5 = .ok (.invokestatic 22, 3) := by decide +kernel
theorem dX5_checkAsker_8 : decode cX5_checkAsker 8 = .ok (.ifCond .ne 23, 3) := by decide +kernel
theorem dX5_checkAsker_11 : decode cX5_checkAsker 11 = .ok (.iload_n 1, 1) := by decide +kernel
theorem dX5_checkAsker_12 : decode cX5_checkAsker 12 = .ok (.iconst 0, 1) := by decide +kernel
theorem dX5_checkAsker_13 : decode cX5_checkAsker 13 = .ok (.bipush 9, 2) := by decide +kernel
theorem dX5_checkAsker_15 : decode cX5_checkAsker 15 = .ok (.invokestatic 22, 3) := by decide +kernel
theorem dX5_checkAsker_18 : decode cX5_checkAsker 18 = .ok (.ifCond .ne 13, 3) := by decide +kernel
theorem dX5_checkAsker_21 : decode cX5_checkAsker 21 = .ok (.iload_n 2, 1) := by decide +kernel
theorem dX5_checkAsker_22 : decode cX5_checkAsker 22 = .ok (.iconst 0, 1) := by decide +kernel
theorem dX5_checkAsker_23 : decode cX5_checkAsker 23 = .ok (.bipush 9, 2) := by decide +kernel
theorem dX5_checkAsker_25 : decode cX5_checkAsker 25 = .ok (.invokestatic 22, 3) := by decide +kernel
theorem dX5_checkAsker_28 : decode cX5_checkAsker 28 = .ok (.ifCond .eq 14, 3) := by decide +kernel
theorem dX5_checkAsker_31 : decode cX5_checkAsker 31 = .ok (.new 26, 3) := by decide +kernel
theorem dX5_checkAsker_34 : decode cX5_checkAsker 34 = .ok (.dup, 1) := by decide +kernel
theorem dX5_checkAsker_35 : decode cX5_checkAsker 35 = .ok (.ldc_w 308, 3) := by decide +kernel
theorem dX5_checkAsker_38 : decode cX5_checkAsker 38 = .ok (.invokespecial 30, 3) := by decide +kernel
theorem dX5_checkAsker_41 : decode cX5_checkAsker 41 = .ok (.athrow, 1) := by decide +kernel
theorem dX5_checkAsker_42 : decode cX5_checkAsker 42 = .ok (.return_, 1) := by decide +kernel
theorem dX5_checkMany_0 : decode cX5_checkMany 0 = .ok (.iload_n 0, 1) := by decide +kernel
theorem dX5_checkMany_1 : decode cX5_checkMany 1 = .ok (.iconst 1, 1) := by decide +kernel
theorem dX5_checkMany_2 : decode cX5_checkMany 2 = .ok (.sipush 200, 3) := by decide +kernel
theorem dX5_checkMany_5 : decode cX5_checkMany 5 = .ok (.invokestatic 22, 3) := by decide +kernel
theorem dX5_checkMany_8 : decode cX5_checkMany 8 = .ok (.ifCond .eq 14, 3) := by decide +kernel
theorem dX5_checkMany_11 : decode cX5_checkMany 11 = .ok (.new 26, 3) := by decide +kernel
theorem dX5_checkMany_14 : decode cX5_checkMany 14 = .ok (.dup, 1) := by decide +kernel
theorem dX5_checkMany_15 : decode cX5_checkMany 15 = .ok (.ldc_w 310, 3) := by decide +kernel
theorem dX5_checkMany_18 : decode cX5_checkMany 18 = .ok (.invokespecial 30, 3) := by decide +kernel
theorem dX5_checkMany_21 : decode cX5_checkMany 21 = .ok (.athrow, 1) := by decide +kernel
theorem dX5_checkMany_22 : decode cX5_checkMany 22 = .ok (.return_, 1) := by decide +kernel
theorem dX5_checkRange_0 : decode cX5_checkRange 0 = .ok (.iload_n 0, 1) := by decide +kernel
theorem dX5_checkRange_1 : decode cX5_checkRange 1 = .ok (.iconst 0, 1) := by decide +kernel
theorem dX5_checkRange_2 : decode cX5_checkRange 2 = .ok (.iconst 2, 1) := by decide +kernel
theorem dX5_checkRange_3 : decode cX5_checkRange 3 = .ok (.invokestatic 22, 3) := by decide +kernel
theorem dX5_checkRange_6 : decode cX5_checkRange 6 = .ok (.ifCond .ne 19, 3) := by decide +kernel
theorem dX5_checkRange_9 : decode cX5_checkRange 9 = .ok (.iload_n 1, 1) := by decide +kernel
theorem dX5_checkRange_10 : decode cX5_checkRange 10 = .ok (.ifCond .lt 15, 3) := by decide +kernel
theorem dX5_checkRange_13 : decode cX5_checkRange 13 = .ok (.iload_n 1, 1) := by decide +kernel
theorem dX5_checkRange_14 : decode cX5_checkRange 14 = .ok (.iload_n 2, 1) := by decide +kernel
theorem dX5_checkRange_15 : decode cX5_checkRange 15 = .ok (.if_icmp .gt 10, 3) := by decide +kernel
theorem dX5_checkRange_18 : decode cX5_checkRange 18 = .ok (.iload_n 2, 1) := by decide +kernel
theorem dX5_checkRange_19 : decode cX5_checkRange 19 = .ok (.sipush 1000, 3) := by decide +kernel
theorem dX5_checkRange_22 : decode cX5_checkRange 22 = .ok (.if_icmp .le 14, 3) := by decide +kernel
theorem dX5_checkRange_25 : decode cX5_checkRange 25 = .ok (.new 26, 3) := by decide +kernel
theorem dX5_checkRange_28 : decode cX5_checkRange 28 = .ok (.dup, 1) := by decide +kernel
theorem dX5_checkRange_29 : decode cX5_checkRange 29 = .ok (.ldc_w 312, 3) := by decide +kernel
theorem dX5_checkRange_32 : decode cX5_checkRange 32 = .ok (.invokespecial 30, 3) := by decide +kernel
theorem dX5_checkRange_35 : decode cX5_checkRange 35 = .ok (.athrow, 1) := by decide +kernel
theorem dX5_checkRange_36 : decode cX5_checkRange 36 = .ok (.return_, 1) := by decide +kernel
theorem dX5_isTaken_0 : decode cX5_isTaken 0 = .ok (.aload_n 0, 1) := by decide +kernel
theorem dX5_isTaken_1 : decode cX5_isTaken 1 = .ok (.getfield 11, 3) := by decide +kernel
theorem dX5_isTaken_4 : decode cX5_isTaken 4 = .ok (.astore 5, 2) := by decide +kernel
theorem dX5_isTaken_6 : decode cX5_isTaken 6 = .ok (.aload 5, 2) := by decide +kernel
theorem dX5_isTaken_8 : decode cX5_isTaken 8 = .ok (.arraylength, 1) := by decide +kernel
theorem dX5_isTaken_9 : decode cX5_isTaken 9 = .ok (.istore 6, 2) := by decide +kernel
theorem dX5_isTaken_11 : decode cX5_isTaken 11 = .ok (.iconst 0, 1) := by decide +kernel
theorem dX5_isTaken_12 : decode cX5_isTaken 12 = .ok (.istore 7, 2) := by decide +kernel
theorem dX5_isTaken_14 : decode cX5_isTaken 14 = .ok (.iload 7, 2) := by decide +kernel
theorem dX5_isTaken_16 : decode cX5_isTaken 16 = .ok (.iload 6, 2) := by decide +kernel
theorem dX5_isTaken_18 : decode cX5_isTaken 18 = .ok (.if_icmp .ge 52, 3) := by decide +kernel
theorem dX5_isTaken_21 : decode cX5_isTaken 21 = .ok (.aload 5, 2) := by decide +kernel
theorem dX5_isTaken_23 : decode cX5_isTaken 23 = .ok (.iload 7, 2) := by decide +kernel
theorem dX5_isTaken_25 : decode cX5_isTaken 25 = .ok (.aaload, 1) := by decide +kernel
theorem dX5_isTaken_26 : decode cX5_isTaken 26 = .ok (.astore 8, 2) := by decide +kernel
theorem dX5_isTaken_28 : decode cX5_isTaken 28 = .ok (.aload 8, 2) := by decide +kernel
theorem dX5_isTaken_30 : decode cX5_isTaken 30 = .ok (.ifnull 34, 3) := by decide +kernel
theorem dX5_isTaken_33 : decode cX5_isTaken 33 = .ok (.aload 8, 2) := by decide +kernel
theorem dX5_isTaken_35 : decode cX5_isTaken 35 = .ok (.getfield 314, 3) := by decide +kernel
theorem dX5_isTaken_38 : decode cX5_isTaken 38 = .ok (.iload_n 1, 1) := by decide +kernel
theorem dX5_isTaken_39 : decode cX5_isTaken 39 = .ok (.if_icmp .eq 25, 3) := by decide +kernel
theorem dX5_isTaken_42 : decode cX5_isTaken 42 = .ok (.aload 8, 2) := by decide +kernel
theorem dX5_isTaken_44 : decode cX5_isTaken 44 = .ok (.getfield 88, 3) := by decide +kernel
theorem dX5_isTaken_47 : decode cX5_isTaken 47 = .ok (.iload_n 2, 1) := by decide +kernel
theorem dX5_isTaken_48 : decode cX5_isTaken 48 = .ok (.if_icmp .ne 16, 3) := by decide +kernel
theorem dX5_isTaken_51 : decode cX5_isTaken 51 = .ok (.aload 8, 2) := by decide +kernel
theorem dX5_isTaken_53 : decode cX5_isTaken 53 = .ok (.iload_n 3, 1) := by decide +kernel
theorem dX5_isTaken_54 : decode cX5_isTaken 54 = .ok (.iload 4, 2) := by decide +kernel
theorem dX5_isTaken_56 : decode cX5_isTaken 56 = .ok (.invokevirtual 317, 3) := by decide +kernel
theorem dX5_isTaken_59 : decode cX5_isTaken 59 = .ok (.ifCond .eq 5, 3) := by decide +kernel
theorem dX5_isTaken_62 : decode cX5_isTaken 62 = .ok (.iconst 1, 1) := by decide +kernel
theorem dX5_isTaken_63 : decode cX5_isTaken 63 = .ok (.ireturn, 1) := by decide +kernel
theorem dX5_isTaken_64 : decode cX5_isTaken 64 = .ok (.iinc 7 1, 3) := by decide +kernel
theorem dX5_isTaken_67 : decode cX5_isTaken 67 = .ok (.goto (-53), 3) := by decide +kernel
theorem dX5_isTaken_70 : decode cX5_isTaken 70 = .ok (.iconst 0, 1) := by decide +kernel
theorem dX5_isTaken_71 : decode cX5_isTaken 71 = .ok (.ireturn, 1) := by decide +kernel
theorem dX5_variantOf_0 : decode cX5_variantOf 0 = .ok (.aload_n 0, 1) := by decide +kernel
theorem dX5_variantOf_1 : decode cX5_variantOf 1 = .ok (.aload_n 1, 1) := by decide +kernel
theorem dX5_variantOf_2 : decode cX5_variantOf 2 = .ok (.aload_n 0, 1) := by decide +kernel
theorem dX5_variantOf_3 : decode cX5_variantOf 3 = .ok (.aload_n 1, 1) := by decide +kernel
theorem dX5_variantOf_4 : decode cX5_variantOf 4 = .ok (.invokevirtual 155, 3) := by decide +kernel
theorem dX5_variantOf_7 : decode cX5_variantOf 7 = .ok (.invokevirtual 161, 3) := by decide +kernel
theorem dX5_variantOf_10 : decode cX5_variantOf 10 = .ok (.ireturn, 1) := by decide +kernel
theorem dX5_variantBy_0 : decode cX5_variantBy 0 = .ok (.iload_n 2, 1) := by decide +kernel
theorem dX5_variantBy_1 : decode cX5_variantBy 1 = .ok (.lookupswitch 118 #[(2, 35), (3, 60), (8, 99)], 35) := by decide +kernel
theorem dX5_variantBy_36 : decode cX5_variantBy 36 = .ok (.aload_n 1, 1) := by decide +kernel
theorem dX5_variantBy_37 : decode cX5_variantBy 37 = .ok (.aload_n 0, 1) := by decide +kernel
theorem dX5_variantBy_38 : decode cX5_variantBy 38 = .ok (.getfield 18, 3) := by decide +kernel
theorem dX5_variantBy_41 : decode cX5_variantBy 41 = .ok (.getfield 320, 3) := by decide +kernel
theorem dX5_variantBy_44 : decode cX5_variantBy 44 = .ok (.invokevirtual 168, 3) := by decide +kernel
theorem dX5_variantBy_47 : decode cX5_variantBy 47 = .ok (.astore_n 3, 1) := by decide +kernel
theorem dX5_variantBy_48 : decode cX5_variantBy 48 = .ok (.aload_n 3, 1) := by decide +kernel
theorem dX5_variantBy_49 : decode cX5_variantBy 49 = .ok (.ifnonnull 7, 3) := by decide +kernel
theorem dX5_variantBy_52 : decode cX5_variantBy 52 = .ok (.iconst 0, 1) := by decide +kernel
theorem dX5_variantBy_53 : decode cX5_variantBy 53 = .ok (.goto 7, 3) := by decide +kernel
theorem dX5_variantBy_56 : decode cX5_variantBy 56 = .ok (.aload_n 3, 1) := by decide +kernel
theorem dX5_variantBy_57 : decode cX5_variantBy 57 = .ok (.getfield 183, 3) := by decide +kernel
theorem dX5_variantBy_60 : decode cX5_variantBy 60 = .ok (.ireturn, 1) := by decide +kernel
theorem dX5_variantBy_61 : decode cX5_variantBy 61 = .ok (.aload_n 1, 1) := by decide +kernel
theorem dX5_variantBy_62 : decode cX5_variantBy 62 = .ok (.aload_n 1, 1) := by decide +kernel
theorem dX5_variantBy_63 : decode cX5_variantBy 63 = .ok (.aload_n 0, 1) := by decide +kernel
theorem dX5_variantBy_64 : decode cX5_variantBy 64 = .ok (.getfield 18, 3) := by decide +kernel
theorem dX5_variantBy_67 : decode cX5_variantBy 67 = .ok (.getfield 323, 3) := by decide +kernel
theorem dX5_variantBy_70 : decode cX5_variantBy 70 = .ok (.aload_n 0, 1) := by decide +kernel
theorem dX5_variantBy_71 : decode cX5_variantBy 71 = .ok (.getfield 18, 3) := by decide +kernel
theorem dX5_variantBy_74 : decode cX5_variantBy 74 = .ok (.getfield 326, 3) := by decide +kernel
theorem dX5_variantBy_77 : decode cX5_variantBy 77 = .ok (.invokevirtual 158, 3) := by decide +kernel
theorem dX5_variantBy_80 : decode cX5_variantBy 80 = .ok (.invokevirtual 329, 3) := by decide +kernel
theorem dX5_variantBy_83 : decode cX5_variantBy 83 = .ok (.astore 4, 2) := by decide +kernel
theorem dX5_variantBy_85 : decode cX5_variantBy 85 = .ok (.aload 4, 2) := by decide +kernel
theorem dX5_variantBy_87 : decode cX5_variantBy 87 = .ok (.ifnonnull 7, 3) := by decide +kernel
theorem dX5_variantBy_90 : decode cX5_variantBy 90 = .ok (.iconst 0, 1) := by decide +kernel
theorem dX5_variantBy_91 : decode cX5_variantBy 91 = .ok (.goto 8, 3) := by decide +kernel
theorem dX5_variantBy_94 : decode cX5_variantBy 94 = .ok (.aload 4, 2) := by decide +kernel
theorem dX5_variantBy_96 : decode cX5_variantBy 96 = .ok (.getfield 333, 3) := by decide +kernel
theorem dX5_variantBy_99 : decode cX5_variantBy 99 = .ok (.ireturn, 1) := by decide +kernel
theorem dX5_variantBy_100 : decode cX5_variantBy 100 = .ok (.aload_n 1, 1) := by decide +kernel
theorem dX5_variantBy_101 : decode cX5_variantBy 101 = .ok (.aload_n 1, 1) := by decide +kernel
theorem dX5_variantBy_102 : decode cX5_variantBy 102 = .ok (.getfield 334, 3) := by decide +kernel
theorem dX5_variantBy_105 : decode cX5_variantBy 105 = .ok (.aload_n 0, 1) := by decide +kernel
theorem dX5_variantBy_106 : decode cX5_variantBy 106 = .ok (.getfield 18, 3) := by decide +kernel
theorem dX5_variantBy_109 : decode cX5_variantBy 109 = .ok (.getfield 320, 3) := by decide +kernel
theorem dX5_variantBy_112 : decode cX5_variantBy 112 = .ok (.invokestatic 141, 3) := by decide +kernel
theorem dX5_variantBy_115 : decode cX5_variantBy 115 = .ok (.invokevirtual 337, 3) := by decide +kernel
theorem dX5_variantBy_118 : decode cX5_variantBy 118 = .ok (.ireturn, 1) := by decide +kernel
theorem dX5_variantBy_119 : decode cX5_variantBy 119 = .ok (.iconst 0, 1) := by decide +kernel
theorem dX5_variantBy_120 : decode cX5_variantBy 120 = .ok (.ireturn, 1) := by decide +kernel
theorem dX5_reasonOf_0 : decode cX5_reasonOf 0 = .ok (.aload_n 0, 1) := by decide +kernel
theorem dX5_reasonOf_1 : decode cX5_reasonOf 1 = .ok (.getfield 18, 3) := by decide +kernel
theorem dX5_reasonOf_4 : decode cX5_reasonOf 4 = .ok (.aload_n 1, 1) := by decide +kernel
theorem dX5_reasonOf_5 : decode cX5_reasonOf 5 = .ok (.invokevirtual 340, 3) := by decide +kernel
theorem dX5_reasonOf_8 : decode cX5_reasonOf 8 = .ok (.ifCond .ne 5, 3) := by decide +kernel
theorem dX5_reasonOf_11 : decode cX5_reasonOf 11 = .ok (.iconst 0, 1) := by decide +kernel
theorem dX5_reasonOf_12 : decode cX5_reasonOf 12 = .ok (.ireturn, 1) := by decide +kernel
theorem dX5_reasonOf_13 : decode cX5_reasonOf 13 = .ok (.aload_n 0, 1) := by decide +kernel
theorem dX5_reasonOf_14 : decode cX5_reasonOf 14 = .ok (.aload_n 1, 1) := by decide +kernel
theorem dX5_reasonOf_15 : decode cX5_reasonOf 15 = .ok (.invokevirtual 344, 3) := by decide +kernel
theorem dX5_reasonOf_18 : decode cX5_reasonOf 18 = .ok (.ifCond .ne 5, 3) := by decide +kernel
theorem dX5_reasonOf_21 : decode cX5_reasonOf 21 = .ok (.iconst 1, 1) := by decide +kernel
theorem dX5_reasonOf_22 : decode cX5_reasonOf 22 = .ok (.ireturn, 1) := by decide +kernel
theorem dX5_reasonOf_23 : decode cX5_reasonOf 23 = .ok (.aload_n 1, 1) := by decide +kernel
theorem dX5_reasonOf_24 : decode cX5_reasonOf 24 = .ok (.getfield 347, 3) := by decide +kernel
theorem dX5_reasonOf_27 : decode cX5_reasonOf 27 = .ok (.ifCond .eq 19, 3) := by decide +kernel
theorem dX5_reasonOf_30 : decode cX5_reasonOf 30 = .ok (.aload_n 1, 1) := by decide +kernel
theorem dX5_reasonOf_31 : decode cX5_reasonOf 31 = .ok (.aload_n 0, 1) := by decide +kernel
theorem dX5_reasonOf_32 : decode cX5_reasonOf 32 = .ok (.getfield 18, 3) := by decide +kernel
theorem dX5_reasonOf_35 : decode cX5_reasonOf 35 = .ok (.getfield 320, 3) := by decide +kernel
theorem dX5_reasonOf_38 : decode cX5_reasonOf 38 = .ok (.invokevirtual 168, 3) := by decide +kernel
theorem dX5_reasonOf_41 : decode cX5_reasonOf 41 = .ok (.ifnull 5, 3) := by decide +kernel
theorem dX5_reasonOf_44 : decode cX5_reasonOf 44 = .ok (.iconst 2, 1) := by decide +kernel
theorem dX5_reasonOf_45 : decode cX5_reasonOf 45 = .ok (.ireturn, 1) := by decide +kernel
theorem dX5_reasonOf_46 : decode cX5_reasonOf 46 = .ok (.aload_n 1, 1) := by decide +kernel
theorem dX5_reasonOf_47 : decode cX5_reasonOf 47 = .ok (.aload_n 1, 1) := by decide +kernel
theorem dX5_reasonOf_48 : decode cX5_reasonOf 48 = .ok (.aload_n 0, 1) := by decide +kernel
theorem dX5_reasonOf_49 : decode cX5_reasonOf 49 = .ok (.getfield 18, 3) := by decide +kernel
theorem dX5_reasonOf_52 : decode cX5_reasonOf 52 = .ok (.getfield 323, 3) := by decide +kernel
theorem dX5_reasonOf_55 : decode cX5_reasonOf 55 = .ok (.aload_n 0, 1) := by decide +kernel
theorem dX5_reasonOf_56 : decode cX5_reasonOf 56 = .ok (.getfield 18, 3) := by decide +kernel
theorem dX5_reasonOf_59 : decode cX5_reasonOf 59 = .ok (.getfield 326, 3) := by decide +kernel
theorem dX5_reasonOf_62 : decode cX5_reasonOf 62 = .ok (.invokevirtual 158, 3) := by decide +kernel
theorem dX5_reasonOf_65 : decode cX5_reasonOf 65 = .ok (.invokevirtual 329, 3) := by decide +kernel
theorem dX5_reasonOf_68 : decode cX5_reasonOf 68 = .ok (.astore_n 2, 1) := by decide +kernel
theorem dX5_reasonOf_69 : decode cX5_reasonOf 69 = .ok (.aload_n 2, 1) := by decide +kernel
theorem dX5_reasonOf_70 : decode cX5_reasonOf 70 = .ok (.ifnull 13, 3) := by decide +kernel
theorem dX5_reasonOf_73 : decode cX5_reasonOf 73 = .ok (.aload_n 2, 1) := by decide +kernel
theorem dX5_reasonOf_74 : decode cX5_reasonOf 74 = .ok (.getfield 333, 3) := by decide +kernel
theorem dX5_reasonOf_77 : decode cX5_reasonOf 77 = .ok (.iconst (-1), 1) := by decide +kernel
theorem dX5_reasonOf_78 : decode cX5_reasonOf 78 = .ok (.if_icmp .eq 5, 3) := by decide +kernel
theorem dX5_reasonOf_81 : decode cX5_reasonOf 81 = .ok (.iconst 3, 1) := by decide +kernel
theorem dX5_reasonOf_82 : decode cX5_reasonOf 82 = .ok (.ireturn, 1) := by decide +kernel
theorem dX5_reasonOf_83 : decode cX5_reasonOf 83 = .ok (.sipush 999, 3) := by decide +kernel
theorem dX5_reasonOf_86 : decode cX5_reasonOf 86 = .ok (.aload_n 0, 1) := by decide +kernel
theorem dX5_reasonOf_87 : decode cX5_reasonOf 87 = .ok (.getfield 18, 3) := by decide +kernel
theorem dX5_reasonOf_90 : decode cX5_reasonOf 90 = .ok (.getfield 320, 3) := by decide +kernel
theorem dX5_reasonOf_93 : decode cX5_reasonOf 93 = .ok (.invokestatic 141, 3) := by decide +kernel
theorem dX5_reasonOf_96 : decode cX5_reasonOf 96 = .ok (.aload_n 0, 1) := by decide +kernel
theorem dX5_reasonOf_97 : decode cX5_reasonOf 97 = .ok (.getfield 132, 3) := by decide +kernel
theorem dX5_reasonOf_100 : decode cX5_reasonOf 100 = .ok (.if_icmp .ge 5, 3) := by decide +kernel
theorem dX5_reasonOf_103 : decode cX5_reasonOf 103 = .ok (.iconst 4, 1) := by decide +kernel
theorem dX5_reasonOf_104 : decode cX5_reasonOf 104 = .ok (.ireturn, 1) := by decide +kernel
theorem dX5_reasonOf_105 : decode cX5_reasonOf 105 = .ok (.aload_n 0, 1) := by decide +kernel
theorem dX5_reasonOf_106 : decode cX5_reasonOf 106 = .ok (.aload_n 1, 1) := by decide +kernel
theorem dX5_reasonOf_107 : decode cX5_reasonOf 107 = .ok (.invokevirtual 350, 3) := by decide +kernel
theorem dX5_reasonOf_110 : decode cX5_reasonOf 110 = .ok (.ifCond .ne 5, 3) := by decide +kernel
theorem dX5_reasonOf_113 : decode cX5_reasonOf 113 = .ok (.iconst 5, 1) := by decide +kernel
theorem dX5_reasonOf_114 : decode cX5_reasonOf 114 = .ok (.ireturn, 1) := by decide +kernel
theorem dX5_reasonOf_115 : decode cX5_reasonOf 115 = .ok (.aload_n 1, 1) := by decide +kernel
theorem dX5_reasonOf_116 : decode cX5_reasonOf 116 = .ok (.getfield 334, 3) := by decide +kernel
theorem dX5_reasonOf_119 : decode cX5_reasonOf 119 = .ok (.iconst 1, 1) := by decide +kernel
theorem dX5_reasonOf_120 : decode cX5_reasonOf 120 = .ok (.iadd, 1) := by decide +kernel
theorem dX5_reasonOf_121 : decode cX5_reasonOf 121 = .ok (.aload_n 0, 1) := by decide +kernel
theorem dX5_reasonOf_122 : decode cX5_reasonOf 122 = .ok (.getfield 18, 3) := by decide +kernel
theorem dX5_reasonOf_125 : decode cX5_reasonOf 125 = .ok (.getfield 320, 3) := by decide +kernel
theorem dX5_reasonOf_128 : decode cX5_reasonOf 128 = .ok (.invokestatic 141, 3) := by decide +kernel
theorem dX5_reasonOf_131 : decode cX5_reasonOf 131 = .ok (.aload_n 0, 1) := by decide +kernel
theorem dX5_reasonOf_132 : decode cX5_reasonOf 132 = .ok (.getfield 18, 3) := by decide +kernel
theorem dX5_reasonOf_135 : decode cX5_reasonOf 135 = .ok (.aload_n 1, 1) := by decide +kernel
theorem dX5_reasonOf_136 : decode cX5_reasonOf 136 = .ok (.aload_n 0, 1) := by decide +kernel
theorem dX5_reasonOf_137 : decode cX5_reasonOf 137 = .ok (.getfield 69, 3) := by decide +kernel
theorem dX5_reasonOf_140 : decode cX5_reasonOf 140 = .ok (.invokevirtual 353, 3) := by decide +kernel
theorem dX5_reasonOf_143 : decode cX5_reasonOf 143 = .ok (.if_icmp .lt 6, 3) := by decide +kernel
theorem dX5_reasonOf_146 : decode cX5_reasonOf 146 = .ok (.bipush 6, 2) := by decide +kernel
theorem dX5_reasonOf_148 : decode cX5_reasonOf 148 = .ok (.ireturn, 1) := by decide +kernel
theorem dX5_reasonOf_149 : decode cX5_reasonOf 149 = .ok (.aload_n 2, 1) := by decide +kernel
theorem dX5_reasonOf_150 : decode cX5_reasonOf 150 = .ok (.ifnonnull 15, 3) := by decide +kernel
theorem dX5_reasonOf_153 : decode cX5_reasonOf 153 = .ok (.aload_n 1, 1) := by decide +kernel
theorem dX5_reasonOf_154 : decode cX5_reasonOf 154 = .ok (.getfield 107, 3) := by decide +kernel
theorem dX5_reasonOf_157 : decode cX5_reasonOf 157 = .ok (.ifCond .le 8, 3) := by decide +kernel
theorem dX5_reasonOf_160 : decode cX5_reasonOf 160 = .ok (.bipush 7, 2) := by decide +kernel
theorem dX5_reasonOf_162 : decode cX5_reasonOf 162 = .ok (.goto 5, 3) := by decide +kernel
theorem dX5_reasonOf_165 : decode cX5_reasonOf 165 = .ok (.bipush 8, 2) := by decide +kernel
theorem dX5_reasonOf_167 : decode cX5_reasonOf 167 = .ok (.ireturn, 1) := by decide +kernel
theorem dX5_hasNeed_0 : decode cX5_hasNeed 0 = .ok (.aload_n 1, 1) := by decide +kernel
theorem dX5_hasNeed_1 : decode cX5_hasNeed 1 = .ok (.getfield 99, 3) := by decide +kernel
theorem dX5_hasNeed_4 : decode cX5_hasNeed 4 = .ok (.aload_n 1, 1) := by decide +kernel
theorem dX5_hasNeed_5 : decode cX5_hasNeed 5 = .ok (.getfield 314, 3) := by decide +kernel
theorem dX5_hasNeed_8 : decode cX5_hasNeed 8 = .ok (.if_icmp .ge 14, 3) := by decide +kernel
theorem dX5_hasNeed_11 : decode cX5_hasNeed 11 = .ok (.aload_n 0, 1) := by decide +kernel
theorem dX5_hasNeed_12 : decode cX5_hasNeed 12 = .ok (.aload_n 1, 1) := by decide +kernel
theorem dX5_hasNeed_13 : decode cX5_hasNeed 13 = .ok (.getfield 99, 3) := by decide +kernel
theorem dX5_hasNeed_16 : decode cX5_hasNeed 16 = .ok (.invokevirtual 301, 3) := by decide +kernel
theorem dX5_hasNeed_19 : decode cX5_hasNeed 19 = .ok (.goto 4, 3) := by decide +kernel
theorem dX5_hasNeed_22 : decode cX5_hasNeed 22 = .ok (.aconst_null, 1) := by decide +kernel
theorem dX5_hasNeed_23 : decode cX5_hasNeed 23 = .ok (.astore_n 2, 1) := by decide +kernel
theorem dX5_hasNeed_24 : decode cX5_hasNeed 24 = .ok (.aload_n 2, 1) := by decide +kernel
theorem dX5_hasNeed_25 : decode cX5_hasNeed 25 = .ok (.ifnull 15, 3) := by decide +kernel
theorem dX5_hasNeed_28 : decode cX5_hasNeed 28 = .ok (.aload_n 0, 1) := by decide +kernel
theorem dX5_hasNeed_29 : decode cX5_hasNeed 29 = .ok (.aload_n 2, 1) := by decide +kernel
theorem dX5_hasNeed_30 : decode cX5_hasNeed 30 = .ok (.invokevirtual 151, 3) := by decide +kernel
theorem dX5_hasNeed_33 : decode cX5_hasNeed 33 = .ok (.aload_n 1, 1) := by decide +kernel
theorem dX5_hasNeed_34 : decode cX5_hasNeed 34 = .ok (.getfield 102, 3) := by decide +kernel
theorem dX5_hasNeed_37 : decode cX5_hasNeed 37 = .ok (.if_icmp .ne 7, 3) := by decide +kernel
theorem dX5_hasNeed_40 : decode cX5_hasNeed 40 = .ok (.iconst 1, 1) := by decide +kernel
theorem dX5_hasNeed_41 : decode cX5_hasNeed 41 = .ok (.goto 4, 3) := by decide +kernel
theorem dX5_hasNeed_44 : decode cX5_hasNeed 44 = .ok (.iconst 0, 1) := by decide +kernel
theorem dX5_hasNeed_45 : decode cX5_hasNeed 45 = .ok (.ireturn, 1) := by decide +kernel
theorem dX5_isInLayer_0 : decode cX5_isInLayer 0 = .ok (.aload_n 1, 1) := by decide +kernel
theorem dX5_isInLayer_1 : decode cX5_isInLayer 1 = .ok (.getfield 88, 3) := by decide +kernel
theorem dX5_isInLayer_4 : decode cX5_isInLayer 4 = .ok (.iconst (-1), 1) := by decide +kernel
theorem dX5_isInLayer_5 : decode cX5_isInLayer 5 = .ok (.if_icmp .ne 5, 3) := by decide +kernel
theorem dX5_isInLayer_8 : decode cX5_isInLayer 8 = .ok (.iconst 1, 1) := by decide +kernel
theorem dX5_isInLayer_9 : decode cX5_isInLayer 9 = .ok (.ireturn, 1) := by decide +kernel
theorem dX5_isInLayer_10 : decode cX5_isInLayer 10 = .ok (.sipush 500, 3) := by decide +kernel
theorem dX5_isInLayer_13 : decode cX5_isInLayer 13 = .ok (.aload_n 1, 1) := by decide +kernel
theorem dX5_isInLayer_14 : decode cX5_isInLayer 14 = .ok (.getfield 88, 3) := by decide +kernel
theorem dX5_isInLayer_17 : decode cX5_isInLayer 17 = .ok (.iadd, 1) := by decide +kernel
theorem dX5_isInLayer_18 : decode cX5_isInLayer 18 = .ok (.aload_n 0, 1) := by decide +kernel
theorem dX5_isInLayer_19 : decode cX5_isInLayer 19 = .ok (.getfield 18, 3) := by decide +kernel
theorem dX5_isInLayer_22 : decode cX5_isInLayer 22 = .ok (.getfield 320, 3) := by decide +kernel
theorem dX5_isInLayer_25 : decode cX5_isInLayer 25 = .ok (.invokestatic 141, 3) := by decide +kernel
theorem dX5_isInLayer_28 : decode cX5_isInLayer 28 = .ok (.istore_n 2, 1) := by decide +kernel
theorem dX5_isInLayer_29 : decode cX5_isInLayer 29 = .ok (.iload_n 2, 1) := by decide +kernel
theorem dX5_isInLayer_30 : decode cX5_isInLayer 30 = .ok (.aload_n 1, 1) := by decide +kernel
theorem dX5_isInLayer_31 : decode cX5_isInLayer 31 = .ok (.getfield 91, 3) := by decide +kernel
theorem dX5_isInLayer_34 : decode cX5_isInLayer 34 = .ok (.if_icmp .lt 15, 3) := by decide +kernel
theorem dX5_isInLayer_37 : decode cX5_isInLayer 37 = .ok (.iload_n 2, 1) := by decide +kernel
theorem dX5_isInLayer_38 : decode cX5_isInLayer 38 = .ok (.aload_n 1, 1) := by decide +kernel
theorem dX5_isInLayer_39 : decode cX5_isInLayer 39 = .ok (.getfield 94, 3) := by decide +kernel
theorem dX5_isInLayer_42 : decode cX5_isInLayer 42 = .ok (.if_icmp .ge 7, 3) := by decide +kernel
theorem dX5_isInLayer_45 : decode cX5_isInLayer 45 = .ok (.iconst 1, 1) := by decide +kernel
theorem dX5_isInLayer_46 : decode cX5_isInLayer 46 = .ok (.goto 4, 3) := by decide +kernel
theorem dX5_isInLayer_49 : decode cX5_isInLayer 49 = .ok (.iconst 0, 1) := by decide +kernel
theorem dX5_isInLayer_50 : decode cX5_isInLayer 50 = .ok (.ireturn, 1) := by decide +kernel
theorem dX5_changesByTurning_0 : decode cX5_changesByTurning 0 = .ok (.iload_n 1, 1) := by decide +kernel
theorem dX5_changesByTurning_1 : decode cX5_changesByTurning 1 = .ok (.istore_n 3, 1) := by decide +kernel
theorem dX5_changesByTurning_2 : decode cX5_changesByTurning 2 = .ok (.iload_n 3, 1) := by decide +kernel
theorem dX5_changesByTurning_3 : decode cX5_changesByTurning 3 = .ok (.aload_n 0, 1) := by decide +kernel
theorem dX5_changesByTurning_4 : decode cX5_changesByTurning 4 = .ok (.getfield 33, 3) := by decide +kernel
theorem dX5_changesByTurning_7 : decode cX5_changesByTurning 7 = .ok (.if_icmp .ge 60, 3) := by decide +kernel
theorem dX5_changesByTurning_10 : decode cX5_changesByTurning 10 = .ok (.aload_n 0, 1) := by decide +kernel
theorem dX5_changesByTurning_11 : decode cX5_changesByTurning 11 = .ok (.iload_n 3, 1) := by decide +kernel
theorem dX5_changesByTurning_12 : decode cX5_changesByTurning 12 = .ok (.invokevirtual 301, 3) := by decide +kernel
theorem dX5_changesByTurning_15 : decode cX5_changesByTurning 15 = .ok (.astore 4, 2) := by decide +kernel
theorem dX5_changesByTurning_17 : decode cX5_changesByTurning 17 = .ok (.aload 4, 2) := by decide +kernel
theorem dX5_changesByTurning_19 : decode cX5_changesByTurning 19 = .ok (.ifnonnull 5, 3) := by decide +kernel
theorem dX5_changesByTurning_22 : decode cX5_changesByTurning 22 = .ok (.iconst 0, 1) := by decide +kernel
theorem dX5_changesByTurning_23 : decode cX5_changesByTurning 23 = .ok (.ireturn, 1) := by decide +kernel
theorem dX5_changesByTurning_24 : decode cX5_changesByTurning 24 = .ok (.aload_n 0, 1) := by decide +kernel
theorem dX5_changesByTurning_25 : decode cX5_changesByTurning 25 = .ok (.getfield 18, 3) := by decide +kernel
theorem dX5_changesByTurning_28 : decode cX5_changesByTurning 28 = .ok (.iload_n 2, 1) := by decide +kernel
theorem dX5_changesByTurning_29 : decode cX5_changesByTurning 29 = .ok (.invokevirtual 233, 3) := by decide +kernel
theorem dX5_changesByTurning_32 : decode cX5_changesByTurning 32 = .ok (.aload_n 0, 1) := by decide +kernel
theorem dX5_changesByTurning_33 : decode cX5_changesByTurning 33 = .ok (.aload 4, 2) := by decide +kernel
theorem dX5_changesByTurning_35 : decode cX5_changesByTurning 35 = .ok (.invokevirtual 151, 3) := by decide +kernel
theorem dX5_changesByTurning_38 : decode cX5_changesByTurning 38 = .ok (.istore 5, 2) := by decide +kernel
theorem dX5_changesByTurning_40 : decode cX5_changesByTurning 40 = .ok (.aload_n 0, 1) := by decide +kernel
theorem dX5_changesByTurning_41 : decode cX5_changesByTurning 41 = .ok (.getfield 18, 3) := by decide +kernel
theorem dX5_changesByTurning_44 : decode cX5_changesByTurning 44 = .ok (.iload_n 1, 1) := by decide +kernel
theorem dX5_changesByTurning_45 : decode cX5_changesByTurning 45 = .ok (.invokevirtual 356, 3) := by decide +kernel
theorem dX5_changesByTurning_48 : decode cX5_changesByTurning 48 = .ok (.aload_n 0, 1) := by decide +kernel
theorem dX5_changesByTurning_49 : decode cX5_changesByTurning 49 = .ok (.aload 4, 2) := by decide +kernel
theorem dX5_changesByTurning_51 : decode cX5_changesByTurning 51 = .ok (.invokevirtual 151, 3) := by decide +kernel
theorem dX5_changesByTurning_54 : decode cX5_changesByTurning 54 = .ok (.iload 5, 2) := by decide +kernel
theorem dX5_changesByTurning_56 : decode cX5_changesByTurning 56 = .ok (.if_icmp .eq 5, 3) := by decide +kernel
theorem dX5_changesByTurning_59 : decode cX5_changesByTurning 59 = .ok (.iconst 1, 1) := by decide +kernel
theorem dX5_changesByTurning_60 : decode cX5_changesByTurning 60 = .ok (.ireturn, 1) := by decide +kernel
theorem dX5_changesByTurning_61 : decode cX5_changesByTurning 61 = .ok (.iinc 3 1, 3) := by decide +kernel
theorem dX5_changesByTurning_64 : decode cX5_changesByTurning 64 = .ok (.goto (-62), 3) := by decide +kernel
theorem dX5_changesByTurning_67 : decode cX5_changesByTurning 67 = .ok (.iconst 0, 1) := by decide +kernel
theorem dX5_changesByTurning_68 : decode cX5_changesByTurning 68 = .ok (.ireturn, 1) := by decide +kernel
theorem dJ9_max_7cf53_0 : decode cJ9_max_7cf53 0 = .ok (.iload_n 0, 1) := by decide +kernel
theorem dJ9_max_7cf53_1 : decode cJ9_max_7cf53 1 = .ok (.iload_n 1, 1) := by decide +kernel
theorem dJ9_max_7cf53_2 : decode cJ9_max_7cf53 2 = .ok (.if_icmp .lt 7, 3) := by decide +kernel
theorem dJ9_max_7cf53_5 : decode cJ9_max_7cf53 5 = .ok (.iload_n 0, 1) := by decide +kernel
theorem dJ9_max_7cf53_6 : decode cJ9_max_7cf53 6 = .ok (.goto 4, 3) := by decide +kernel
theorem dJ9_max_7cf53_9 : decode cJ9_max_7cf53 9 = .ok (.iload_n 1, 1) := by decide +kernel
theorem dJ9_max_7cf53_10 : decode cJ9_max_7cf53 10 = .ok (.ireturn, 1) := by decide +kernel
theorem dJ9_min_7cf53_0 : decode cJ9_min_7cf53 0 = .ok (.iload_n 0, 1) := by decide +kernel
theorem dJ9_min_7cf53_1 : decode cJ9_min_7cf53 1 = .ok (.iload_n 1, 1) := by decide +kernel
theorem dJ9_min_7cf53_2 : decode cJ9_min_7cf53 2 = .ok (.if_icmp .gt 7, 3) := by decide +kernel
theorem dJ9_min_7cf53_5 : decode cJ9_min_7cf53 5 = .ok (.iload_n 0, 1) := by decide +kernel
theorem dJ9_min_7cf53_6 : decode cJ9_min_7cf53 6 = .ok (.goto 4, 3) := by decide +kernel
theorem dJ9_min_7cf53_9 : decode cJ9_min_7cf53 9 = .ok (.iload_n 1, 1) := by decide +kernel
theorem dJ9_min_7cf53_10 : decode cJ9_min_7cf53 10 = .ok (.ireturn, 1) := by decide +kernel
theorem dJ9_min_f86c9_0 : decode cJ9_min_f86c9 0 = .ok (.lload_n 0, 1) := by decide +kernel
theorem dJ9_min_f86c9_1 : decode cJ9_min_f86c9 1 = .ok (.lload_n 2, 1) := by decide +kernel
theorem dJ9_min_f86c9_2 : decode cJ9_min_f86c9 2 = .ok (.lcmp, 1) := by decide +kernel
theorem dJ9_min_f86c9_3 : decode cJ9_min_f86c9 3 = .ok (.ifCond .gt 7, 3) := by decide +kernel
theorem dJ9_min_f86c9_6 : decode cJ9_min_f86c9 6 = .ok (.lload_n 0, 1) := by decide +kernel
theorem dJ9_min_f86c9_7 : decode cJ9_min_f86c9 7 = .ok (.goto 4, 3) := by decide +kernel
theorem dJ9_min_f86c9_10 : decode cJ9_min_f86c9 10 = .ok (.lload_n 2, 1) := by decide +kernel
theorem dJ9_min_f86c9_11 : decode cJ9_min_f86c9 11 = .ok (.lreturn, 1) := by decide +kernel
