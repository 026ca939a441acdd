theorem dX6_init_0 : decode cX6_init 0 = .ok (.aload_n 0, 1) := by decide +kernel
theorem dX6_init_1 : decode cX6_init 1 = .ok (.invokespecial 1, 3) := by decide +kernel
theorem dX6_init_4 : decode cX6_init 4 = .ok (.aload_n 0, 1) := by decide +kernel
theorem dX6_init_5 : decode cX6_init 5 = .ok (.new 7, 3) := by decide +kernel
theorem dX6_init_8 : decode cX6_init 8 = .ok (.dup, 1) := by decide +kernel
theorem dX6_init_9 : decode cX6_init 9 = .ok (.invokespecial 9, 3) := by decide +kernel
theorem dX6_init_12 : decode cX6_init 12 = .ok (.putfield 10, 3) := by decide +kernel
theorem dX6_init_15 : decode cX6_init 15 = .ok (.aload_n 0, 1) := by decide +kernel
theorem dX6_init_16 : decode cX6_init 16 = .ok (.bipush 8, 2) := by decide +kernel
theorem dX6_init_18 : decode cX6_init 18 = .ok (.anewarray 16, 3) := by decide +kernel
theorem dX6_init_21 : decode cX6_init 21 = .ok (.putfield 18, 3) := by decide +kernel
theorem dX6_init_24 : decode cX6_init 24 = .ok (.aload_n 0, 1) := by decide +kernel
theorem dX6_init_25 : decode cX6_init 25 = .ok (.bipush 8, 2) := by decide +kernel
theorem dX6_init_27 : decode cX6_init 27 = .ok (.iconst 4, 1) := by decide +kernel
theorem dX6_init_28 : decode cX6_init 28 = .ok (.multianewarray 22 2, 4) := by decide +kernel
theorem dX6_init_32 : decode cX6_init 32 = .ok (.putfield 23, 3) := by decide +kernel
theorem dX6_init_35 : decode cX6_init 35 = .ok (.aload_n 0, 1) := by decide +kernel
theorem dX6_init_36 : decode cX6_init 36 = .ok (.bipush 8, 2) := by decide +kernel
theorem dX6_init_38 : decode cX6_init 38 = .ok (.iconst 0, 1) := by decide +kernel
theorem dX6_init_39 : decode cX6_init 39 = .ok (.multianewarray 26 2, 4) := by decide +kernel
theorem dX6_init_43 : decode cX6_init 43 = .ok (.putfield 28, 3) := by decide +kernel
theorem dX6_init_46 : decode cX6_init 46 = .ok (.aload_n 0, 1) := by decide +kernel
theorem dX6_init_47 : decode cX6_init 47 = .ok (.iconst 0, 1) := by decide +kernel
theorem dX6_init_48 : decode cX6_init 48 = .ok (.anewarray 16, 3) := by decide +kernel
theorem dX6_init_51 : decode cX6_init 51 = .ok (.putfield 31, 3) := by decide +kernel
theorem dX6_init_54 : decode cX6_init 54 = .ok (.aload_n 0, 1) := by decide +kernel
theorem dX6_init_55 : decode cX6_init 55 = .ok (.aload_n 1, 1) := by decide +kernel
theorem dX6_init_56 : decode cX6_init 56 = .ok (.putfield 34, 3) := by decide +kernel
theorem dX6_init_59 : decode cX6_init 59 = .ok (.aload_n 0, 1) := by decide +kernel
theorem dX6_init_60 : decode cX6_init 60 = .ok (.iload_n 2, 1) := by decide +kernel
theorem dX6_init_61 : decode cX6_init 61 = .ok (.putfield 37, 3) := by decide +kernel
theorem dX6_init_64 : decode cX6_init 64 = .ok (.return_, 1) := by decide +kernel
theorem dX6_draw_0 : decode cX6_draw 0 = .ok (.aload_n 0, 1) := by decide +kernel
theorem dX6_draw_1 : decode cX6_draw 1 = .ok (.getfield 34, 3) := by decide +kernel
theorem dX6_draw_4 : decode cX6_draw 4 = .ok (.aload_n 0, 1) := by decide +kernel
theorem dX6_draw_5 : decode cX6_draw 5 = .ok (.getfield 37, 3) := by decide +kernel
theorem dX6_draw_8 : decode cX6_draw 8 = .ok (.bipush 24, 2) := by decide +kernel
theorem dX6_draw_10 : decode cX6_draw 10 = .ok (.irem, 1) := by decide +kernel
theorem dX6_draw_11 : decode cX6_draw 11 = .ok (.invokestatic 41, 3) := by decide +kernel
theorem dX6_draw_14 : decode cX6_draw 14 = .ok (.aload_n 0, 1) := by decide +kernel
theorem dX6_draw_15 : decode cX6_draw 15 = .ok (.getfield 37, 3) := by decide +kernel
theorem dX6_draw_18 : decode cX6_draw 18 = .ok (.bipush 24, 2) := by decide +kernel
theorem dX6_draw_20 : decode cX6_draw 20 = .ok (.idiv, 1) := by decide +kernel
theorem dX6_draw_21 : decode cX6_draw 21 = .ok (.bipush 8, 2) := by decide +kernel
theorem dX6_draw_23 : decode cX6_draw 23 = .ok (.irem, 1) := by decide +kernel
theorem dX6_draw_24 : decode cX6_draw 24 = .ok (.ishr, 1) := by decide +kernel
theorem dX6_draw_25 : decode cX6_draw 25 = .ok (.bipush 127, 2) := by decide +kernel
theorem dX6_draw_27 : decode cX6_draw 27 = .ok (.aload_n 0, 1) := by decide +kernel
theorem dX6_draw_28 : decode cX6_draw 28 = .ok (.getfield 37, 3) := by decide +kernel
theorem dX6_draw_31 : decode cX6_draw 31 = .ok (.imul, 1) := by decide +kernel
theorem dX6_draw_32 : decode cX6_draw 32 = .ok (.iadd, 1) := by decide +kernel
theorem dX6_draw_33 : decode cX6_draw 33 = .ok (.iload_n 1, 1) := by decide +kernel
theorem dX6_draw_34 : decode cX6_draw 34 = .ok (.invokestatic 47, 3) := by decide +kernel
theorem dX6_draw_37 : decode cX6_draw 37 = .ok (.istore_n 2, 1) := by decide +kernel
theorem dX6_draw_38 : decode cX6_draw 38 = .ok (.aload_n 0, 1) := by decide +kernel
theorem dX6_draw_39 : decode cX6_draw 39 = .ok (.dup, 1) := by decide +kernel
theorem dX6_draw_40 : decode cX6_draw 40 = .ok (.getfield 37, 3) := by decide +kernel
theorem dX6_draw_43 : decode cX6_draw 43 = .ok (.iconst 1, 1) := by decide +kernel
theorem dX6_draw_44 : decode cX6_draw 44 = .ok (.iadd, 1) := by decide +kernel
theorem dX6_draw_45 : decode cX6_draw 45 = .ok (.putfield 37, 3) := by decide +kernel
theorem dX6_draw_48 : decode cX6_draw 48 = .ok (.iload_n 2, 1) := by decide +kernel
theorem dX6_draw_49 : decode cX6_draw 49 = .ok (.ireturn, 1) := by decide +kernel
theorem dX6_with_0 : decode cX6_with 0 = .ok (.aload_n 0, 1) := by decide +kernel
theorem dX6_with_1 : decode cX6_with 1 = .ok (.arraylength, 1) := by decide +kernel
theorem dX6_with_2 : decode cX6_with 2 = .ok (.iconst 1, 1) := by decide +kernel
theorem dX6_with_3 : decode cX6_with 3 = .ok (.iadd, 1) := by decide +kernel
theorem dX6_with_4 : decode cX6_with 4 = .ok (.anewarray 16, 3) := by decide +kernel
theorem dX6_with_7 : decode cX6_with 7 = .ok (.astore_n 2, 1) := by decide +kernel
theorem dX6_with_8 : decode cX6_with 8 = .ok (.aload_n 0, 1) := by decide +kernel
theorem dX6_with_9 : decode cX6_with 9 = .ok (.iconst 0, 1) := by decide +kernel
theorem dX6_with_10 : decode cX6_with 10 = .ok (.aload_n 2, 1) := by decide +kernel
theorem dX6_with_11 : decode cX6_with 11 = .ok (.iconst 0, 1) := by decide +kernel
theorem dX6_with_12 : decode cX6_with 12 = .ok (.aload_n 0, 1) := by decide +kernel
theorem dX6_with_13 : decode cX6_with 13 = .ok (.arraylength, 1) := by decide +kernel
theorem dX6_with_14 : decode cX6_with 14 = .ok (.invokestatic 51, 3) := by decide +kernel
theorem dX6_with_17 : decode cX6_with 17 = .ok (.aload_n 2, 1) := by decide +kernel
theorem dX6_with_18 : decode cX6_with 18 = .ok (.aload_n 0, 1) := by decide +kernel
theorem dX6_with_19 : decode cX6_with 19 = .ok (.arraylength, 1) := by decide +kernel
theorem dX6_with_20 : decode cX6_with 20 = .ok (.aload_n 1, 1) := by decide +kernel
theorem dX6_with_21 : decode cX6_with 21 = .ok (.aastore, 1) := by decide +kernel
theorem dX6_with_22 : decode cX6_with 22 = .ok (.aload_n 2, 1) := by decide +kernel
theorem dX6_with_23 : decode cX6_with 23 = .ok (.areturn, 1) := by decide +kernel
theorem dX6_add_0 : decode cX6_add 0 = .ok (.aload_n 0, 1) := by decide +kernel
theorem dX6_add_1 : decode cX6_add 1 = .ok (.getfield 57, 3) := by decide +kernel
theorem dX6_add_4 : decode cX6_add 4 = .ok (.bipush 8, 2) := by decide +kernel
theorem dX6_add_6 : decode cX6_add 6 = .ok (.if_icmp .ne 5, 3) := by decide +kernel
theorem dX6_add_9 : decode cX6_add 9 = .ok (.iconst 1, 1) := by decide +kernel
theorem dX6_add_10 : decode cX6_add 10 = .ok (.ireturn, 1) := by decide +kernel
theorem dX6_add_11 : decode cX6_add 11 = .ok (.bipush 12, 2) := by decide +kernel
theorem dX6_add_13 : decode cX6_add 13 = .ok (.newarray .int, 2) := by decide +kernel
theorem dX6_add_15 : decode cX6_add 15 = .ok (.dup, 1) := by decide +kernel
theorem dX6_add_16 : decode cX6_add 16 = .ok (.iconst 0, 1) := by decide +kernel
theorem dX6_add_17 : decode cX6_add 17 = .ok (.aload_n 0, 1) := by decide +kernel
theorem dX6_add_18 : decode cX6_add 18 = .ok (.sipush 499, 3) := by decide +kernel
theorem dX6_add_21 : decode cX6_add 21 = .ok (.invokevirtual 60, 3) := by decide +kernel
theorem dX6_add_24 : decode cX6_add 24 = .ok (.iastore, 1) := by decide +kernel
theorem dX6_add_25 : decode cX6_add 25 = .ok (.dup, 1) := by decide +kernel
theorem dX6_add_26 : decode cX6_add 26 = .ok (.iconst 1, 1) := by decide +kernel
theorem dX6_add_27 : decode cX6_add 27 = .ok (.iconst 2, 1) := by decide +kernel
theorem dX6_add_28 : decode cX6_add 28 = .ok (.aload_n 0, 1) := by decide +kernel
theorem dX6_add_29 : decode cX6_add 29 = .ok (.iconst 3, 1) := by decide +kernel
theorem dX6_add_30 : decode cX6_add 30 = .ok (.invokevirtual 60, 3) := by decide +kernel
theorem dX6_add_33 : decode cX6_add 33 = .ok (.iadd, 1) := by decide +kernel
theorem dX6_add_34 : decode cX6_add 34 = .ok (.iastore, 1) := by decide +kernel
theorem dX6_add_35 : decode cX6_add 35 = .ok (.dup, 1) := by decide +kernel
theorem dX6_add_36 : decode cX6_add 36 = .ok (.iconst 2, 1) := by decide +kernel
theorem dX6_add_37 : decode cX6_add 37 = .ok (.aload_n 0, 1) := by decide +kernel
theorem dX6_add_38 : decode cX6_add 38 = .ok (.iconst 3, 1) := by decide +kernel
theorem dX6_add_39 : decode cX6_add 39 = .ok (.invokevirtual 60, 3) := by decide +kernel
theorem dX6_add_42 : decode cX6_add 42 = .ok (.ifCond .ne 7, 3) := by decide +kernel
theorem dX6_add_45 : decode cX6_add 45 = .ok (.iconst 1, 1) := by decide +kernel
theorem dX6_add_46 : decode cX6_add 46 = .ok (.goto 4, 3) := by decide +kernel
theorem dX6_add_49 : decode cX6_add 49 = .ok (.iconst 0, 1) := by decide +kernel
theorem dX6_add_50 : decode cX6_add 50 = .ok (.iastore, 1) := by decide +kernel
theorem dX6_add_51 : decode cX6_add 51 = .ok (.dup, 1) := by decide +kernel
theorem dX6_add_52 : decode cX6_add 52 = .ok (.iconst 3, 1) := by decide +kernel
theorem dX6_add_53 : decode cX6_add 53 = .ok (.iconst 0, 1) := by decide +kernel
theorem dX6_add_54 : decode cX6_add 54 = .ok (.iastore, 1) := by decide +kernel
theorem dX6_add_55 : decode cX6_add 55 = .ok (.dup, 1) := by decide +kernel
theorem dX6_add_56 : decode cX6_add 56 = .ok (.iconst 4, 1) := by decide +kernel
theorem dX6_add_57 : decode cX6_add 57 = .ok (.sipush 1000, 3) := by decide +kernel
theorem dX6_add_60 : decode cX6_add 60 = .ok (.iastore, 1) := by decide +kernel
theorem dX6_add_61 : decode cX6_add 61 = .ok (.dup, 1) := by decide +kernel
theorem dX6_add_62 : decode cX6_add 62 = .ok (.iconst 5, 1) := by decide +kernel
theorem dX6_add_63 : decode cX6_add 63 = .ok (.iconst 0, 1) := by decide +kernel
theorem dX6_add_64 : decode cX6_add 64 = .ok (.iastore, 1) := by decide +kernel
theorem dX6_add_65 : decode cX6_add 65 = .ok (.dup, 1) := by decide +kernel
theorem dX6_add_66 : decode cX6_add 66 = .ok (.bipush 6, 2) := by decide +kernel
theorem dX6_add_68 : decode cX6_add 68 = .ok (.aload_n 0, 1) := by decide +kernel
theorem dX6_add_69 : decode cX6_add 69 = .ok (.getfield 64, 3) := by decide +kernel
theorem dX6_add_72 : decode cX6_add 72 = .ok (.iastore, 1) := by decide +kernel
theorem dX6_add_73 : decode cX6_add 73 = .ok (.dup, 1) := by decide +kernel
theorem dX6_add_74 : decode cX6_add 74 = .ok (.bipush 7, 2) := by decide +kernel
theorem dX6_add_76 : decode cX6_add 76 = .ok (.iconst (-1), 1) := by decide +kernel
theorem dX6_add_77 : decode cX6_add 77 = .ok (.iastore, 1) := by decide +kernel
theorem dX6_add_78 : decode cX6_add 78 = .ok (.dup, 1) := by decide +kernel
theorem dX6_add_79 : decode cX6_add 79 = .ok (.bipush 8, 2) := by decide +kernel
theorem dX6_add_81 : decode cX6_add 81 = .ok (.iconst 0, 1) := by decide +kernel
theorem dX6_add_82 : decode cX6_add 82 = .ok (.iastore, 1) := by decide +kernel
theorem dX6_add_83 : decode cX6_add 83 = .ok (.dup, 1) := by decide +kernel
theorem dX6_add_84 : decode cX6_add 84 = .ok (.bipush 9, 2) := by decide +kernel
theorem dX6_add_86 : decode cX6_add 86 = .ok (.iconst 0, 1) := by decide +kernel
theorem dX6_add_87 : decode cX6_add 87 = .ok (.iastore, 1) := by decide +kernel
theorem dX6_add_88 : decode cX6_add 88 = .ok (.dup, 1) := by decide +kernel
theorem dX6_add_89 : decode cX6_add 89 = .ok (.bipush 10, 2) := by decide +kernel
theorem dX6_add_91 : decode cX6_add 91 = .ok (.iconst (-1), 1) := by decide +kernel
theorem dX6_add_92 : decode cX6_add 92 = .ok (.iastore, 1) := by decide +kernel
theorem dX6_add_93 : decode cX6_add 93 = .ok (.dup, 1) := by decide +kernel
theorem dX6_add_94 : decode cX6_add 94 = .ok (.bipush 11, 2) := by decide +kernel
theorem dX6_add_96 : decode cX6_add 96 = .ok (.iconst 0, 1) := by decide +kernel
theorem dX6_add_97 : decode cX6_add 97 = .ok (.iastore, 1) := by decide +kernel
theorem dX6_add_98 : decode cX6_add 98 = .ok (.astore_n 1, 1) := by decide +kernel
theorem dX6_add_99 : decode cX6_add 99 = .ok (.aload_n 0, 1) := by decide +kernel
theorem dX6_add_100 : decode cX6_add 100 = .ok (.getfield 18, 3) := by decide +kernel
theorem dX6_add_103 : decode cX6_add 103 = .ok (.aload_n 0, 1) := by decide +kernel
theorem dX6_add_104 : decode cX6_add 104 = .ok (.getfield 57, 3) := by decide +kernel
theorem dX6_add_107 : decode cX6_add 107 = .ok (.aload_n 1, 1) := by decide +kernel
theorem dX6_add_108 : decode cX6_add 108 = .ok (.aastore, 1) := by decide +kernel
theorem dX6_add_109 : decode cX6_add 109 = .ok (.aload_n 0, 1) := by decide +kernel
theorem dX6_add_110 : decode cX6_add 110 = .ok (.getfield 23, 3) := by decide +kernel
theorem dX6_add_113 : decode cX6_add 113 = .ok (.aload_n 0, 1) := by decide +kernel
theorem dX6_add_114 : decode cX6_add 114 = .ok (.getfield 57, 3) := by decide +kernel
theorem dX6_add_117 : decode cX6_add 117 = .ok (.aaload, 1) := by decide +kernel
theorem dX6_add_118 : decode cX6_add 118 = .ok (.iconst 0, 1) := by decide +kernel
theorem dX6_add_119 : decode cX6_add 119 = .ok (.sipush 1000, 3) := by decide +kernel
theorem dX6_add_122 : decode cX6_add 122 = .ok (.iastore, 1) := by decide +kernel
theorem dX6_add_123 : decode cX6_add 123 = .ok (.aload_n 0, 1) := by decide +kernel
theorem dX6_add_124 : decode cX6_add 124 = .ok (.getfield 10, 3) := by decide +kernel
theorem dX6_add_127 : decode cX6_add 127 = .ok (.aload_n 1, 1) := by decide +kernel
theorem dX6_add_128 : decode cX6_add 128 = .ok (.iconst 0, 1) := by decide +kernel
theorem dX6_add_129 : decode cX6_add 129 = .ok (.iaload, 1) := by decide +kernel
theorem dX6_add_130 : decode cX6_add 130 = .ok (.aload_n 1, 1) := by decide +kernel
theorem dX6_add_131 : decode cX6_add 131 = .ok (.iconst 1, 1) := by decide +kernel
theorem dX6_add_132 : decode cX6_add 132 = .ok (.iaload, 1) := by decide +kernel
theorem dX6_add_133 : decode cX6_add 133 = .ok (.aload_n 1, 1) := by decide +kernel
theorem dX6_add_134 : decode cX6_add 134 = .ok (.iconst 2, 1) := by decide +kernel
theorem dX6_add_135 : decode cX6_add 135 = .ok (.iaload, 1) := by decide +kernel
theorem dX6_add_136 : decode cX6_add 136 = .ok (.iconst 1, 1) := by decide +kernel
theorem dX6_add_137 : decode cX6_add 137 = .ok (.if_icmp .ne 7, 3) := by decide +kernel
theorem dX6_add_140 : decode cX6_add 140 = .ok (.iconst 1, 1) := by decide +kernel
theorem dX6_add_141 : decode cX6_add 141 = .ok (.goto 4, 3) := by decide +kernel
theorem dX6_add_144 : decode cX6_add 144 = .ok (.iconst 0, 1) := by decide +kernel
theorem dX6_add_145 : decode cX6_add 145 = .ok (.invokevirtual 67, 3) := by decide +kernel
theorem dX6_add_148 : decode cX6_add 148 = .ok (.aload_n 0, 1) := by decide +kernel
theorem dX6_add_149 : decode cX6_add 149 = .ok (.dup, 1) := by decide +kernel
theorem dX6_add_150 : decode cX6_add 150 = .ok (.getfield 57, 3) := by decide +kernel
theorem dX6_add_153 : decode cX6_add 153 = .ok (.dup_x1, 1) := by decide +kernel
theorem dX6_add_154 : decode cX6_add 154 = .ok (.iconst 1, 1) := by decide +kernel
theorem dX6_add_155 : decode cX6_add 155 = .ok (.iadd, 1) := by decide +kernel
theorem dX6_add_156 : decode cX6_add 156 = .ok (.putfield 57, 3) := by decide +kernel
theorem dX6_add_159 : decode cX6_add 159 = .ok (.if_icmp .ne 7, 3) := by decide +kernel
theorem dX6_add_162 : decode cX6_add 162 = .ok (.iconst 1, 1) := by decide +kernel
theorem dX6_add_163 : decode cX6_add 163 = .ok (.goto 4, 3) := by decide +kernel
theorem dX6_add_166 : decode cX6_add 166 = .ok (.iconst 0, 1) := by decide +kernel
theorem dX6_add_167 : decode cX6_add 167 = .ok (.ireturn, 1) := by decide +kernel
theorem dX6_weigh_0 : decode cX6_weigh 0 = .ok (.aload_n 0, 1) := by decide +kernel
theorem dX6_weigh_1 : decode cX6_weigh 1 = .ok (.aload_n 0, 1) := by decide +kernel
theorem dX6_weigh_2 : decode cX6_weigh 2 = .ok (.getfield 57, 3) := by decide +kernel
theorem dX6_weigh_5 : decode cX6_weigh 5 = .ok (.invokevirtual 60, 3) := by decide +kernel
theorem dX6_weigh_8 : decode cX6_weigh 8 = .ok (.istore_n 1, 1) := by decide +kernel
theorem dX6_weigh_9 : decode cX6_weigh 9 = .ok (.iconst 1, 1) := by decide +kernel
theorem dX6_weigh_10 : decode cX6_weigh 10 = .ok (.aload_n 0, 1) := by decide +kernel
theorem dX6_weigh_11 : decode cX6_weigh 11 = .ok (.aload_n 0, 1) := by decide +kernel
theorem dX6_weigh_12 : decode cX6_weigh 12 = .ok (.getfield 18, 3) := by decide +kernel
theorem dX6_weigh_15 : decode cX6_weigh 15 = .ok (.iload_n 1, 1) := by decide +kernel
theorem dX6_weigh_16 : decode cX6_weigh 16 = .ok (.aaload, 1) := by decide +kernel
theorem dX6_weigh_17 : decode cX6_weigh 17 = .ok (.iconst 1, 1) := by decide +kernel
theorem dX6_weigh_18 : decode cX6_weigh 18 = .ok (.iaload, 1) := by decide +kernel
theorem dX6_weigh_19 : decode cX6_weigh 19 = .ok (.iconst 1, 1) := by decide +kernel
theorem dX6_weigh_20 : decode cX6_weigh 20 = .ok (.isub, 1) := by decide +kernel
theorem dX6_weigh_21 : decode cX6_weigh 21 = .ok (.invokevirtual 60, 3) := by decide +kernel
theorem dX6_weigh_24 : decode cX6_weigh 24 = .ok (.iadd, 1) := by decide +kernel
theorem dX6_weigh_25 : decode cX6_weigh 25 = .ok (.istore_n 2, 1) := by decide +kernel
theorem dX6_weigh_26 : decode cX6_weigh 26 = .ok (.aload_n 0, 1) := by decide +kernel
theorem dX6_weigh_27 : decode cX6_weigh 27 = .ok (.getfield 23, 3) := by decide +kernel
theorem dX6_weigh_30 : decode cX6_weigh 30 = .ok (.iload_n 1, 1) := by decide +kernel
theorem dX6_weigh_31 : decode cX6_weigh 31 = .ok (.aaload, 1) := by decide +kernel
theorem dX6_weigh_32 : decode cX6_weigh 32 = .ok (.iconst 0, 1) := by decide +kernel
theorem dX6_weigh_33 : decode cX6_weigh 33 = .ok (.iaload, 1) := by decide +kernel
theorem dX6_weigh_34 : decode cX6_weigh 34 = .ok (.aload_n 0, 1) := by decide +kernel
theorem dX6_weigh_35 : decode cX6_weigh 35 = .ok (.getfield 23, 3) := by decide +kernel
theorem dX6_weigh_38 : decode cX6_weigh 38 = .ok (.iload_n 1, 1) := by decide +kernel
theorem dX6_weigh_39 : decode cX6_weigh 39 = .ok (.aaload, 1) := by decide +kernel
theorem dX6_weigh_40 : decode cX6_weigh 40 = .ok (.iload_n 2, 1) := by decide +kernel
theorem dX6_weigh_41 : decode cX6_weigh 41 = .ok (.iaload, 1) := by decide +kernel
theorem dX6_weigh_42 : decode cX6_weigh 42 = .ok (.iadd, 1) := by decide +kernel
theorem dX6_weigh_43 : decode cX6_weigh 43 = .ok (.istore_n 3, 1) := by decide +kernel
theorem dX6_weigh_44 : decode cX6_weigh 44 = .ok (.aload_n 0, 1) := by decide +kernel
theorem dX6_weigh_45 : decode cX6_weigh 45 = .ok (.getfield 23, 3) := by decide +kernel
theorem dX6_weigh_48 : decode cX6_weigh 48 = .ok (.iload_n 1, 1) := by decide +kernel
theorem dX6_weigh_49 : decode cX6_weigh 49 = .ok (.aaload, 1) := by decide +kernel
theorem dX6_weigh_50 : decode cX6_weigh 50 = .ok (.iload_n 2, 1) := by decide +kernel
theorem dX6_weigh_51 : decode cX6_weigh 51 = .ok (.aload_n 0, 1) := by decide +kernel
theorem dX6_weigh_52 : decode cX6_weigh 52 = .ok (.iload_n 3, 1) := by decide +kernel
theorem dX6_weigh_53 : decode cX6_weigh 53 = .ok (.iconst 1, 1) := by decide +kernel
theorem dX6_weigh_54 : decode cX6_weigh 54 = .ok (.iadd, 1) := by decide +kernel
theorem dX6_weigh_55 : decode cX6_weigh 55 = .ok (.invokevirtual 60, 3) := by decide +kernel
theorem dX6_weigh_58 : decode cX6_weigh 58 = .ok (.iastore, 1) := by decide +kernel
theorem dX6_weigh_59 : decode cX6_weigh 59 = .ok (.aload_n 0, 1) := by decide +kernel
theorem dX6_weigh_60 : decode cX6_weigh 60 = .ok (.getfield 23, 3) := by decide +kernel
theorem dX6_weigh_63 : decode cX6_weigh 63 = .ok (.iload_n 1, 1) := by decide +kernel
theorem dX6_weigh_64 : decode cX6_weigh 64 = .ok (.aaload, 1) := by decide +kernel
theorem dX6_weigh_65 : decode cX6_weigh 65 = .ok (.iconst 0, 1) := by decide +kernel
theorem dX6_weigh_66 : decode cX6_weigh 66 = .ok (.iload_n 3, 1) := by decide +kernel
theorem dX6_weigh_67 : decode cX6_weigh 67 = .ok (.aload_n 0, 1) := by decide +kernel
theorem dX6_weigh_68 : decode cX6_weigh 68 = .ok (.getfield 23, 3) := by decide +kernel
theorem dX6_weigh_71 : decode cX6_weigh 71 = .ok (.iload_n 1, 1) := by decide +kernel
theorem dX6_weigh_72 : decode cX6_weigh 72 = .ok (.aaload, 1) := by decide +kernel
theorem dX6_weigh_73 : decode cX6_weigh 73 = .ok (.iload_n 2, 1) := by decide +kernel
theorem dX6_weigh_74 : decode cX6_weigh 74 = .ok (.iaload, 1) := by decide +kernel
theorem dX6_weigh_75 : decode cX6_weigh 75 = .ok (.isub, 1) := by decide +kernel
theorem dX6_weigh_76 : decode cX6_weigh 76 = .ok (.iastore, 1) := by decide +kernel
theorem dX6_weigh_77 : decode cX6_weigh 77 = .ok (.aload_n 0, 1) := by decide +kernel
theorem dX6_weigh_78 : decode cX6_weigh 78 = .ok (.getfield 10, 3) := by decide +kernel
theorem dX6_weigh_81 : decode cX6_weigh 81 = .ok (.iload_n 1, 1) := by decide +kernel
theorem dX6_weigh_82 : decode cX6_weigh 82 = .ok (.iload_n 2, 1) := by decide +kernel
theorem dX6_weigh_83 : decode cX6_weigh 83 = .ok (.aload_n 0, 1) := by decide +kernel
theorem dX6_weigh_84 : decode cX6_weigh 84 = .ok (.getfield 23, 3) := by decide +kernel
theorem dX6_weigh_87 : decode cX6_weigh 87 = .ok (.iload_n 1, 1) := by decide +kernel
theorem dX6_weigh_88 : decode cX6_weigh 88 = .ok (.aaload, 1) := by decide +kernel
theorem dX6_weigh_89 : decode cX6_weigh 89 = .ok (.iload_n 2, 1) := by decide +kernel
theorem dX6_weigh_90 : decode cX6_weigh 90 = .ok (.iaload, 1) := by decide +kernel
theorem dX6_weigh_91 : decode cX6_weigh 91 = .ok (.invokevirtual 71, 3) := by decide +kernel
theorem dX6_weigh_94 : decode cX6_weigh 94 = .ok (.aload_n 0, 1) := by decide +kernel
theorem dX6_weigh_95 : decode cX6_weigh 95 = .ok (.getfield 23, 3) := by decide +kernel
theorem dX6_weigh_98 : decode cX6_weigh 98 = .ok (.iload_n 1, 1) := by decide +kernel
theorem dX6_weigh_99 : decode cX6_weigh 99 = .ok (.aaload, 1) := by decide +kernel
theorem dX6_weigh_100 : decode cX6_weigh 100 = .ok (.iconst 0, 1) := by decide +kernel
theorem dX6_weigh_101 : decode cX6_weigh 101 = .ok (.iaload, 1) := by decide +kernel
theorem dX6_weigh_102 : decode cX6_weigh 102 = .ok (.if_icmp .ne 7, 3) := by decide +kernel
theorem dX6_weigh_105 : decode cX6_weigh 105 = .ok (.iconst 1, 1) := by decide +kernel
theorem dX6_weigh_106 : decode cX6_weigh 106 = .ok (.goto 4, 3) := by decide +kernel
theorem dX6_weigh_109 : decode cX6_weigh 109 = .ok (.iconst 0, 1) := by decide +kernel
theorem dX6_weigh_110 : decode cX6_weigh 110 = .ok (.ireturn, 1) := by decide +kernel
theorem dX6_turn_0 : decode cX6_turn 0 = .ok (.aload_n 0, 1) := by decide +kernel
theorem dX6_turn_1 : decode cX6_turn 1 = .ok (.aload_n 0, 1) := by decide +kernel
theorem dX6_turn_2 : decode cX6_turn 2 = .ok (.getfield 57, 3) := by decide +kernel
theorem dX6_turn_5 : decode cX6_turn 5 = .ok (.invokevirtual 60, 3) := by decide +kernel
theorem dX6_turn_8 : decode cX6_turn 8 = .ok (.istore_n 1, 1) := by decide +kernel
theorem dX6_turn_9 : decode cX6_turn 9 = .ok (.aload_n 0, 1) := by decide +kernel
theorem dX6_turn_10 : decode cX6_turn 10 = .ok (.getfield 18, 3) := by decide +kernel
theorem dX6_turn_13 : decode cX6_turn 13 = .ok (.iload_n 1, 1) := by decide +kernel
theorem dX6_turn_14 : decode cX6_turn 14 = .ok (.aaload, 1) := by decide +kernel
theorem dX6_turn_15 : decode cX6_turn 15 = .ok (.iconst 3, 1) := by decide +kernel
theorem dX6_turn_16 : decode cX6_turn 16 = .ok (.iaload, 1) := by decide +kernel
theorem dX6_turn_17 : decode cX6_turn 17 = .ok (.istore_n 2, 1) := by decide +kernel
theorem dX6_turn_18 : decode cX6_turn 18 = .ok (.aload_n 0, 1) := by decide +kernel
theorem dX6_turn_19 : decode cX6_turn 19 = .ok (.getfield 18, 3) := by decide +kernel
theorem dX6_turn_22 : decode cX6_turn 22 = .ok (.iload_n 1, 1) := by decide +kernel
theorem dX6_turn_23 : decode cX6_turn 23 = .ok (.aaload, 1) := by decide +kernel
theorem dX6_turn_24 : decode cX6_turn 24 = .ok (.iconst 3, 1) := by decide +kernel
theorem dX6_turn_25 : decode cX6_turn 25 = .ok (.aload_n 0, 1) := by decide +kernel
theorem dX6_turn_26 : decode cX6_turn 26 = .ok (.iconst 5, 1) := by decide +kernel
theorem dX6_turn_27 : decode cX6_turn 27 = .ok (.invokevirtual 60, 3) := by decide +kernel
theorem dX6_turn_30 : decode cX6_turn 30 = .ok (.ifCond .le 7, 3) := by decide +kernel
theorem dX6_turn_33 : decode cX6_turn 33 = .ok (.iconst 1, 1) := by decide +kernel
theorem dX6_turn_34 : decode cX6_turn 34 = .ok (.goto 4, 3) := by decide +kernel
theorem dX6_turn_37 : decode cX6_turn 37 = .ok (.iconst 0, 1) := by decide +kernel
theorem dX6_turn_38 : decode cX6_turn 38 = .ok (.iastore, 1) := by decide +kernel
theorem dX6_turn_39 : decode cX6_turn 39 = .ok (.aload_n 0, 1) := by decide +kernel
theorem dX6_turn_40 : decode cX6_turn 40 = .ok (.getfield 10, 3) := by decide +kernel
theorem dX6_turn_43 : decode cX6_turn 43 = .ok (.iload_n 1, 1) := by decide +kernel
theorem dX6_turn_44 : decode cX6_turn 44 = .ok (.aload_n 0, 1) := by decide +kernel
theorem dX6_turn_45 : decode cX6_turn 45 = .ok (.getfield 18, 3) := by decide +kernel
theorem dX6_turn_48 : decode cX6_turn 48 = .ok (.iload_n 1, 1) := by decide +kernel
theorem dX6_turn_49 : decode cX6_turn 49 = .ok (.aaload, 1) := by decide +kernel
theorem dX6_turn_50 : decode cX6_turn 50 = .ok (.iconst 3, 1) := by decide +kernel
theorem dX6_turn_51 : decode cX6_turn 51 = .ok (.iaload, 1) := by decide +kernel
theorem dX6_turn_52 : decode cX6_turn 52 = .ok (.iconst 1, 1) := by decide +kernel
theorem dX6_turn_53 : decode cX6_turn 53 = .ok (.if_icmp .ne 7, 3) := by decide +kernel
theorem dX6_turn_56 : decode cX6_turn 56 = .ok (.iconst 1, 1) := by decide +kernel
theorem dX6_turn_57 : decode cX6_turn 57 = .ok (.goto 4, 3) := by decide +kernel
theorem dX6_turn_60 : decode cX6_turn 60 = .ok (.iconst 0, 1) := by decide +kernel
theorem dX6_turn_61 : decode cX6_turn 61 = .ok (.invokevirtual 75, 3) := by decide +kernel
theorem dX6_turn_64 : decode cX6_turn 64 = .ok (.iload_n 2, 1) := by decide +kernel
theorem dX6_turn_65 : decode cX6_turn 65 = .ok (.iconst 1, 1) := by decide +kernel
theorem dX6_turn_66 : decode cX6_turn 66 = .ok (.if_icmp .ne 7, 3) := by decide +kernel
theorem dX6_turn_69 : decode cX6_turn 69 = .ok (.iconst 1, 1) := by decide +kernel
theorem dX6_turn_70 : decode cX6_turn 70 = .ok (.goto 4, 3) := by decide +kernel
theorem dX6_turn_73 : decode cX6_turn 73 = .ok (.iconst 0, 1) := by decide +kernel
theorem dX6_turn_74 : decode cX6_turn 74 = .ok (.if_icmp .ne 7, 3) := by decide +kernel
theorem dX6_turn_77 : decode cX6_turn 77 = .ok (.iconst 1, 1) := by decide +kernel
theorem dX6_turn_78 : decode cX6_turn 78 = .ok (.goto 4, 3) := by decide +kernel
theorem dX6_turn_81 : decode cX6_turn 81 = .ok (.iconst 0, 1) := by decide +kernel
theorem dX6_turn_82 : decode cX6_turn 82 = .ok (.ireturn, 1) := by decide +kernel
theorem dX6_far_0 : decode cX6_far 0 = .ok (.aload_n 0, 1) := by decide +kernel
theorem dX6_far_1 : decode cX6_far 1 = .ok (.getfield 18, 3) := by decide +kernel
theorem dX6_far_4 : decode cX6_far 4 = .ok (.iload_n 1, 1) := by decide +kernel
theorem dX6_far_5 : decode cX6_far 5 = .ok (.aaload, 1) := by decide +kernel
theorem dX6_far_6 : decode cX6_far 6 = .ok (.iconst 4, 1) := by decide +kernel
theorem dX6_far_7 : decode cX6_far 7 = .ok (.iaload, 1) := by decide +kernel
theorem dX6_far_8 : decode cX6_far 8 = .ok (.istore_n 3, 1) := by decide +kernel
theorem dX6_far_9 : decode cX6_far 9 = .ok (.aload_n 0, 1) := by decide +kernel
theorem dX6_far_10 : decode cX6_far 10 = .ok (.getfield 18, 3) := by decide +kernel
theorem dX6_far_13 : decode cX6_far 13 = .ok (.iload_n 1, 1) := by decide +kernel
theorem dX6_far_14 : decode cX6_far 14 = .ok (.aaload, 1) := by decide +kernel
theorem dX6_far_15 : decode cX6_far 15 = .ok (.bipush 6, 2) := by decide +kernel
theorem dX6_far_17 : decode cX6_far 17 = .ok (.iaload, 1) := by decide +kernel
theorem dX6_far_18 : decode cX6_far 18 = .ok (.istore 4, 2) := by decide +kernel
theorem dX6_far_20 : decode cX6_far 20 = .ok (.iload 4, 2) := by decide +kernel
theorem dX6_far_22 : decode cX6_far 22 = .ok (.aload_n 0, 1) := by decide +kernel
theorem dX6_far_23 : decode cX6_far 23 = .ok (.getfield 64, 3) := by decide +kernel
theorem dX6_far_26 : decode cX6_far 26 = .ok (.iload_n 2, 1) := by decide +kernel
theorem dX6_far_27 : decode cX6_far 27 = .ok (.iadd, 1) := by decide +kernel
theorem dX6_far_28 : decode cX6_far 28 = .ok (.if_icmp .ge 27, 3) := by decide +kernel
theorem dX6_far_31 : decode cX6_far 31 = .ok (.iload_n 3, 1) := by decide +kernel
theorem dX6_far_32 : decode cX6_far 32 = .ok (.sipush 1000, 3) := by decide +kernel
theorem dX6_far_35 : decode cX6_far 35 = .ok (.if_icmp .ge 20, 3) := by decide +kernel
theorem dX6_far_38 : decode cX6_far 38 = .ok (.iload_n 3, 1) := by decide +kernel
theorem dX6_far_39 : decode cX6_far 39 = .ok (.aload_n 0, 1) := by decide +kernel
theorem dX6_far_40 : decode cX6_far 40 = .ok (.getfield 18, 3) := by decide +kernel
theorem dX6_far_43 : decode cX6_far 43 = .ok (.iload_n 1, 1) := by decide +kernel
theorem dX6_far_44 : decode cX6_far 44 = .ok (.aaload, 1) := by decide +kernel
theorem dX6_far_45 : decode cX6_far 45 = .ok (.iconst 5, 1) := by decide +kernel
theorem dX6_far_46 : decode cX6_far 46 = .ok (.iaload, 1) := by decide +kernel
theorem dX6_far_47 : decode cX6_far 47 = .ok (.iadd, 1) := by decide +kernel
theorem dX6_far_48 : decode cX6_far 48 = .ok (.istore_n 3, 1) := by decide +kernel
theorem dX6_far_49 : decode cX6_far 49 = .ok (.iinc 4 1, 3) := by decide +kernel
theorem dX6_far_52 : decode cX6_far 52 = .ok (.goto (-32), 3) := by decide +kernel
theorem dX6_far_55 : decode cX6_far 55 = .ok (.iload_n 3, 1) := by decide +kernel
theorem dX6_far_56 : decode cX6_far 56 = .ok (.sipush 1000, 3) := by decide +kernel
theorem dX6_far_59 : decode cX6_far 59 = .ok (.if_icmp .le 9, 3) := by decide +kernel
theorem dX6_far_62 : decode cX6_far 62 = .ok (.sipush 1000, 3) := by decide +kernel
theorem dX6_far_65 : decode cX6_far 65 = .ok (.goto 4, 3) := by decide +kernel
theorem dX6_far_68 : decode cX6_far 68 = .ok (.iload_n 3, 1) := by decide +kernel
theorem dX6_far_69 : decode cX6_far 69 = .ok (.ireturn, 1) := by decide +kernel
theorem dX6_ramp_0 : decode cX6_ramp 0 = .ok (.aload_n 0, 1) := by decide +kernel
theorem dX6_ramp_1 : decode cX6_ramp 1 = .ok (.aload_n 0, 1) := by decide +kernel
theorem dX6_ramp_2 : decode cX6_ramp 2 = .ok (.getfield 57, 3) := by decide +kernel
theorem dX6_ramp_5 : decode cX6_ramp 5 = .ok (.invokevirtual 60, 3) := by decide +kernel
theorem dX6_ramp_8 : decode cX6_ramp 8 = .ok (.istore_n 1, 1) := by decide +kernel
theorem dX6_ramp_9 : decode cX6_ramp 9 = .ok (.aload_n 0, 1) := by decide +kernel
theorem dX6_ramp_10 : decode cX6_ramp 10 = .ok (.iload_n 1, 1) := by decide +kernel
theorem dX6_ramp_11 : decode cX6_ramp 11 = .ok (.iconst 0, 1) := by decide +kernel
theorem dX6_ramp_12 : decode cX6_ramp 12 = .ok (.invokevirtual 79, 3) := by decide +kernel
theorem dX6_ramp_15 : decode cX6_ramp 15 = .ok (.istore_n 2, 1) := by decide +kernel
theorem dX6_ramp_16 : decode cX6_ramp 16 = .ok (.aload_n 0, 1) := by decide +kernel
theorem dX6_ramp_17 : decode cX6_ramp 17 = .ok (.getfield 18, 3) := by decide +kernel
theorem dX6_ramp_20 : decode cX6_ramp 20 = .ok (.iload_n 1, 1) := by decide +kernel
theorem dX6_ramp_21 : decode cX6_ramp 21 = .ok (.aaload, 1) := by decide +kernel
theorem dX6_ramp_22 : decode cX6_ramp 22 = .ok (.iconst 4, 1) := by decide +kernel
theorem dX6_ramp_23 : decode cX6_ramp 23 = .ok (.aload_n 0, 1) := by decide +kernel
theorem dX6_ramp_24 : decode cX6_ramp 24 = .ok (.iconst 2, 1) := by decide +kernel
theorem dX6_ramp_25 : decode cX6_ramp 25 = .ok (.invokevirtual 60, 3) := by decide +kernel
theorem dX6_ramp_28 : decode cX6_ramp 28 = .ok (.ifCond .ne 13, 3) := by decide +kernel
theorem dX6_ramp_31 : decode cX6_ramp 31 = .ok (.aload_n 0, 1) := by decide +kernel
theorem dX6_ramp_32 : decode cX6_ramp 32 = .ok (.sipush 1001, 3) := by decide +kernel
theorem dX6_ramp_35 : decode cX6_ramp 35 = .ok (.invokevirtual 60, 3) := by decide +kernel
theorem dX6_ramp_38 : decode cX6_ramp 38 = .ok (.goto 10, 3) := by decide +kernel
theorem dX6_ramp_41 : decode cX6_ramp 41 = .ok (.aload_n 0, 1) := by decide +kernel
theorem dX6_ramp_42 : decode cX6_ramp 42 = .ok (.sipush 200, 3) := by decide +kernel
theorem dX6_ramp_45 : decode cX6_ramp 45 = .ok (.invokevirtual 60, 3) := by decide +kernel
theorem dX6_ramp_48 : decode cX6_ramp 48 = .ok (.iastore, 1) := by decide +kernel
theorem dX6_ramp_49 : decode cX6_ramp 49 = .ok (.aload_n 0, 1) := by decide +kernel
theorem dX6_ramp_50 : decode cX6_ramp 50 = .ok (.getfield 18, 3) := by decide +kernel
theorem dX6_ramp_53 : decode cX6_ramp 53 = .ok (.iload_n 1, 1) := by decide +kernel
theorem dX6_ramp_54 : decode cX6_ramp 54 = .ok (.aaload, 1) := by decide +kernel
theorem dX6_ramp_55 : decode cX6_ramp 55 = .ok (.iconst 5, 1) := by decide +kernel
theorem dX6_ramp_56 : decode cX6_ramp 56 = .ok (.aload_n 0, 1) := by decide +kernel
theorem dX6_ramp_57 : decode cX6_ramp 57 = .ok (.iconst 3, 1) := by decide +kernel
theorem dX6_ramp_58 : decode cX6_ramp 58 = .ok (.invokevirtual 60, 3) := by decide +kernel
theorem dX6_ramp_61 : decode cX6_ramp 61 = .ok (.ifCond .ne 7, 3) := by decide +kernel
theorem dX6_ramp_64 : decode cX6_ramp 64 = .ok (.iconst 0, 1) := by decide +kernel
theorem dX6_ramp_65 : decode cX6_ramp 65 = .ok (.goto 10, 3) := by decide +kernel
theorem dX6_ramp_68 : decode cX6_ramp 68 = .ok (.aload_n 0, 1) := by decide +kernel
theorem dX6_ramp_69 : decode cX6_ramp 69 = .ok (.sipush 200, 3) := by decide +kernel
theorem dX6_ramp_72 : decode cX6_ramp 72 = .ok (.invokevirtual 60, 3) := by decide +kernel
theorem dX6_ramp_75 : decode cX6_ramp 75 = .ok (.iastore, 1) := by decide +kernel
theorem dX6_ramp_76 : decode cX6_ramp 76 = .ok (.aload_n 0, 1) := by decide +kernel
theorem dX6_ramp_77 : decode cX6_ramp 77 = .ok (.getfield 18, 3) := by decide +kernel
theorem dX6_ramp_80 : decode cX6_ramp 80 = .ok (.iload_n 1, 1) := by decide +kernel
theorem dX6_ramp_81 : decode cX6_ramp 81 = .ok (.aaload, 1) := by decide +kernel
theorem dX6_ramp_82 : decode cX6_ramp 82 = .ok (.bipush 6, 2) := by decide +kernel
theorem dX6_ramp_84 : decode cX6_ramp 84 = .ok (.aload_n 0, 1) := by decide +kernel
theorem dX6_ramp_85 : decode cX6_ramp 85 = .ok (.getfield 64, 3) := by decide +kernel
theorem dX6_ramp_88 : decode cX6_ramp 88 = .ok (.iastore, 1) := by decide +kernel
theorem dX6_ramp_89 : decode cX6_ramp 89 = .ok (.aload_n 0, 1) := by decide +kernel
theorem dX6_ramp_90 : decode cX6_ramp 90 = .ok (.getfield 10, 3) := by decide +kernel
theorem dX6_ramp_93 : decode cX6_ramp 93 = .ok (.iload_n 1, 1) := by decide +kernel
theorem dX6_ramp_94 : decode cX6_ramp 94 = .ok (.aload_n 0, 1) := by decide +kernel
theorem dX6_ramp_95 : decode cX6_ramp 95 = .ok (.getfield 18, 3) := by decide +kernel
theorem dX6_ramp_98 : decode cX6_ramp 98 = .ok (.iload_n 1, 1) := by decide +kernel
theorem dX6_ramp_99 : decode cX6_ramp 99 = .ok (.aaload, 1) := by decide +kernel
theorem dX6_ramp_100 : decode cX6_ramp 100 = .ok (.iconst 4, 1) := by decide +kernel
theorem dX6_ramp_101 : decode cX6_ramp 101 = .ok (.iaload, 1) := by decide +kernel
theorem dX6_ramp_102 : decode cX6_ramp 102 = .ok (.aload_n 0, 1) := by decide +kernel
theorem dX6_ramp_103 : decode cX6_ramp 103 = .ok (.getfield 18, 3) := by decide +kernel
theorem dX6_ramp_106 : decode cX6_ramp 106 = .ok (.iload_n 1, 1) := by decide +kernel
theorem dX6_ramp_107 : decode cX6_ramp 107 = .ok (.aaload, 1) := by decide +kernel
theorem dX6_ramp_108 : decode cX6_ramp 108 = .ok (.iconst 5, 1) := by decide +kernel
theorem dX6_ramp_109 : decode cX6_ramp 109 = .ok (.iaload, 1) := by decide +kernel
theorem dX6_ramp_110 : decode cX6_ramp 110 = .ok (.invokevirtual 82, 3) := by decide +kernel
theorem dX6_ramp_113 : decode cX6_ramp 113 = .ok (.iload_n 2, 1) := by decide +kernel
theorem dX6_ramp_114 : decode cX6_ramp 114 = .ok (.if_icmp .ne 7, 3) := by decide +kernel
theorem dX6_ramp_117 : decode cX6_ramp 117 = .ok (.iconst 1, 1) := by decide +kernel
theorem dX6_ramp_118 : decode cX6_ramp 118 = .ok (.goto 4, 3) := by decide +kernel
theorem dX6_ramp_121 : decode cX6_ramp 121 = .ok (.iconst 0, 1) := by decide +kernel
theorem dX6_ramp_122 : decode cX6_ramp 122 = .ok (.ireturn, 1) := by decide +kernel
theorem dX6_place_0 : decode cX6_place 0 = .ok (.aload_n 0, 1) := by decide +kernel
theorem dX6_place_1 : decode cX6_place 1 = .ok (.aload_n 0, 1) := by decide +kernel
theorem dX6_place_2 : decode cX6_place 2 = .ok (.getfield 57, 3) := by decide +kernel
theorem dX6_place_5 : decode cX6_place 5 = .ok (.invokevirtual 60, 3) := by decide +kernel
theorem dX6_place_8 : decode cX6_place 8 = .ok (.istore_n 1, 1) := by decide +kernel
theorem dX6_place_9 : decode cX6_place 9 = .ok (.aload_n 0, 1) := by decide +kernel
theorem dX6_place_10 : decode cX6_place 10 = .ok (.iconst 5, 1) := by decide +kernel
theorem dX6_place_11 : decode cX6_place 11 = .ok (.invokevirtual 60, 3) := by decide +kernel
theorem dX6_place_14 : decode cX6_place 14 = .ok (.ifCond .ne 7, 3) := by decide +kernel
theorem dX6_place_17 : decode cX6_place 17 = .ok (.iconst (-1), 1) := by decide +kernel
theorem dX6_place_18 : decode cX6_place 18 = .ok (.goto 8, 3) := by decide +kernel
theorem dX6_place_21 : decode cX6_place 21 = .ok (.aload_n 0, 1) := by decide +kernel
theorem dX6_place_22 : decode cX6_place 22 = .ok (.iconst 2, 1) := by decide +kernel
theorem dX6_place_23 : decode cX6_place 23 = .ok (.invokevirtual 60, 3) := by decide +kernel
theorem dX6_place_26 : decode cX6_place 26 = .ok (.istore_n 2, 1) := by decide +kernel
theorem dX6_place_27 : decode cX6_place 27 = .ok (.bipush 100, 2) := by decide +kernel
theorem dX6_place_29 : decode cX6_place 29 = .ok (.aload_n 0, 1) := by decide +kernel
theorem dX6_place_30 : decode cX6_place 30 = .ok (.bipush 10, 2) := by decide +kernel
theorem dX6_place_32 : decode cX6_place 32 = .ok (.invokevirtual 60, 3) := by decide +kernel
theorem dX6_place_35 : decode cX6_place 35 = .ok (.imul, 1) := by decide +kernel
theorem dX6_place_36 : decode cX6_place 36 = .ok (.istore_n 3, 1) := by decide +kernel
theorem dX6_place_37 : decode cX6_place 37 = .ok (.sipush 1000, 3) := by decide +kernel
theorem dX6_place_40 : decode cX6_place 40 = .ok (.iload_n 3, 1) := by decide +kernel
theorem dX6_place_41 : decode cX6_place 41 = .ok (.aload_n 0, 1) := by decide +kernel
theorem dX6_place_42 : decode cX6_place 42 = .ok (.sipush 500, 3) := by decide +kernel
theorem dX6_place_45 : decode cX6_place 45 = .ok (.invokevirtual 60, 3) := by decide +kernel
theorem dX6_place_48 : decode cX6_place 48 = .ok (.iadd, 1) := by decide +kernel
theorem dX6_place_49 : decode cX6_place 49 = .ok (.invokestatic 85, 3) := by decide +kernel
theorem dX6_place_52 : decode cX6_place 52 = .ok (.istore 4, 2) := by decide +kernel
theorem dX6_place_54 : decode cX6_place 54 = .ok (.iload_n 3, 1) := by decide +kernel
theorem dX6_place_55 : decode cX6_place 55 = .ok (.iload 4, 2) := by decide +kernel
theorem dX6_place_57 : decode cX6_place 57 = .ok (.if_icmp .gt 7, 3) := by decide +kernel
theorem dX6_place_60 : decode cX6_place 60 = .ok (.iconst 1, 1) := by decide +kernel
theorem dX6_place_61 : decode cX6_place 61 = .ok (.goto 4, 3) := by decide +kernel
theorem dX6_place_64 : decode cX6_place 64 = .ok (.iconst 0, 1) := by decide +kernel
theorem dX6_place_65 : decode cX6_place 65 = .ok (.istore 5, 2) := by decide +kernel
theorem dX6_place_67 : decode cX6_place 67 = .ok (.iconst 0, 1) := by decide +kernel
theorem dX6_place_68 : decode cX6_place 68 = .ok (.istore 6, 2) := by decide +kernel
theorem dX6_place_70 : decode cX6_place 70 = .ok (.iload 6, 2) := by decide +kernel
theorem dX6_place_72 : decode cX6_place 72 = .ok (.aload_n 0, 1) := by decide +kernel
theorem dX6_place_73 : decode cX6_place 73 = .ok (.getfield 57, 3) := by decide +kernel
theorem dX6_place_76 : decode cX6_place 76 = .ok (.if_icmp .ge 92, 3) := by decide +kernel
theorem dX6_place_79 : decode cX6_place 79 = .ok (.iload_n 2, 1) := by decide +kernel
theorem dX6_place_80 : decode cX6_place 80 = .ok (.ifCond .lt 88, 3) := by decide +kernel
theorem dX6_place_83 : decode cX6_place 83 = .ok (.iload 6, 2) := by decide +kernel
theorem dX6_place_85 : decode cX6_place 85 = .ok (.iload_n 1, 1) := by decide +kernel
theorem dX6_place_86 : decode cX6_place 86 = .ok (.if_icmp .eq 76, 3) := by decide +kernel
theorem dX6_place_89 : decode cX6_place 89 = .ok (.aload_n 0, 1) := by decide +kernel
theorem dX6_place_90 : decode cX6_place 90 = .ok (.getfield 18, 3) := by decide +kernel
theorem dX6_place_93 : decode cX6_place 93 = .ok (.iload 6, 2) := by decide +kernel
theorem dX6_place_95 : decode cX6_place 95 = .ok (.aaload, 1) := by decide +kernel
theorem dX6_place_96 : decode cX6_place 96 = .ok (.bipush 7, 2) := by decide +kernel
theorem dX6_place_98 : decode cX6_place 98 = .ok (.iaload, 1) := by decide +kernel
theorem dX6_place_99 : decode cX6_place 99 = .ok (.iload_n 2, 1) := by decide +kernel
theorem dX6_place_100 : decode cX6_place 100 = .ok (.if_icmp .eq 6, 3) := by decide +kernel
theorem dX6_place_103 : decode cX6_place 103 = .ok (.goto 59, 3) := by decide +kernel
theorem dX6_place_106 : decode cX6_place 106 = .ok (.iload_n 3, 1) := by decide +kernel
theorem dX6_place_107 : decode cX6_place 107 = .ok (.istore 7, 2) := by decide +kernel
theorem dX6_place_109 : decode cX6_place 109 = .ok (.iload 7, 2) := by decide +kernel
theorem dX6_place_111 : decode cX6_place 111 = .ok (.iload 4, 2) := by decide +kernel
theorem dX6_place_113 : decode cX6_place 113 = .ok (.if_icmp .ge 49, 3) := by decide +kernel
theorem dX6_place_116 : decode cX6_place 116 = .ok (.iload 5, 2) := by decide +kernel
theorem dX6_place_118 : decode cX6_place 118 = .ok (.iload 7, 2) := by decide +kernel
theorem dX6_place_120 : decode cX6_place 120 = .ok (.aload_n 0, 1) := by decide +kernel
theorem dX6_place_121 : decode cX6_place 121 = .ok (.getfield 18, 3) := by decide +kernel
theorem dX6_place_124 : decode cX6_place 124 = .ok (.iload 6, 2) := by decide +kernel
theorem dX6_place_126 : decode cX6_place 126 = .ok (.aaload, 1) := by decide +kernel
theorem dX6_place_127 : decode cX6_place 127 = .ok (.bipush 8, 2) := by decide +kernel
theorem dX6_place_129 : decode cX6_place 129 = .ok (.iaload, 1) := by decide +kernel
theorem dX6_place_130 : decode cX6_place 130 = .ok (.if_icmp .lt 18, 3) := by decide +kernel
theorem dX6_place_133 : decode cX6_place 133 = .ok (.iload 7, 2) := by decide +kernel
theorem dX6_place_135 : decode cX6_place 135 = .ok (.aload_n 0, 1) := by decide +kernel
theorem dX6_place_136 : decode cX6_place 136 = .ok (.getfield 18, 3) := by decide +kernel
theorem dX6_place_139 : decode cX6_place 139 = .ok (.iload 6, 2) := by decide +kernel
theorem dX6_place_141 : decode cX6_place 141 = .ok (.aaload, 1) := by decide +kernel
theorem dX6_place_142 : decode cX6_place 142 = .ok (.bipush 9, 2) := by decide +kernel
theorem dX6_place_144 : decode cX6_place 144 = .ok (.iaload, 1) := by decide +kernel
theorem dX6_place_145 : decode cX6_place 145 = .ok (.if_icmp .lt 7, 3) := by decide +kernel
theorem dX6_place_148 : decode cX6_place 148 = .ok (.iconst 1, 1) := by decide +kernel
theorem dX6_place_149 : decode cX6_place 149 = .ok (.goto 4, 3) := by decide +kernel
theorem dX6_place_152 : decode cX6_place 152 = .ok (.iconst 0, 1) := by decide +kernel
theorem dX6_place_153 : decode cX6_place 153 = .ok (.iand, 1) := by decide +kernel
theorem dX6_place_154 : decode cX6_place 154 = .ok (.istore 5, 2) := by decide +kernel
theorem dX6_place_156 : decode cX6_place 156 = .ok (.iinc 7 1, 3) := by decide +kernel
theorem dX6_place_159 : decode cX6_place 159 = .ok (.goto (-50), 3) := by decide +kernel
theorem dX6_place_162 : decode cX6_place 162 = .ok (.iinc 6 1, 3) := by decide +kernel
theorem dX6_place_165 : decode cX6_place 165 = .ok (.goto (-95), 3) := by decide +kernel
theorem dX6_place_168 : decode cX6_place 168 = .ok (.aload_n 0, 1) := by decide +kernel
theorem dX6_place_169 : decode cX6_place 169 = .ok (.getfield 18, 3) := by decide +kernel
theorem dX6_place_172 : decode cX6_place 172 = .ok (.iload_n 1, 1) := by decide +kernel
theorem dX6_place_173 : decode cX6_place 173 = .ok (.aaload, 1) := by decide +kernel
theorem dX6_place_174 : decode cX6_place 174 = .ok (.bipush 7, 2) := by decide +kernel
theorem dX6_place_176 : decode cX6_place 176 = .ok (.iaload, 1) := by decide +kernel
theorem dX6_place_177 : decode cX6_place 177 = .ok (.istore 6, 2) := by decide +kernel
theorem dX6_place_179 : decode cX6_place 179 = .ok (.aload_n 0, 1) := by decide +kernel
theorem dX6_place_180 : decode cX6_place 180 = .ok (.getfield 10, 3) := by decide +kernel
theorem dX6_place_183 : decode cX6_place 183 = .ok (.iload_n 1, 1) := by decide +kernel
theorem dX6_place_184 : decode cX6_place 184 = .ok (.iload_n 2, 1) := by decide +kernel
theorem dX6_place_185 : decode cX6_place 185 = .ok (.iload_n 3, 1) := by decide +kernel
theorem dX6_place_186 : decode cX6_place 186 = .ok (.iload 4, 2) := by decide +kernel
theorem dX6_place_188 : decode cX6_place 188 = .ok (.invokevirtual 90, 3) := by decide +kernel
theorem dX6_place_191 : decode cX6_place 191 = .ok (.iload 6, 2) := by decide +kernel
theorem dX6_place_193 : decode cX6_place 193 = .ok (.if_icmp .ne 8, 3) := by decide +kernel
theorem dX6_place_196 : decode cX6_place 196 = .ok (.iload 5, 2) := by decide +kernel
theorem dX6_place_198 : decode cX6_place 198 = .ok (.ifCond .ne 5, 3) := by decide +kernel
theorem dX6_place_201 : decode cX6_place 201 = .ok (.iconst 0, 1) := by decide +kernel
theorem dX6_place_202 : decode cX6_place 202 = .ok (.ireturn, 1) := by decide +kernel
theorem dX6_place_203 : decode cX6_place 203 = .ok (.aload_n 0, 1) := by decide +kernel
theorem dX6_place_204 : decode cX6_place 204 = .ok (.getfield 18, 3) := by decide +kernel
theorem dX6_place_207 : decode cX6_place 207 = .ok (.iload_n 1, 1) := by decide +kernel
theorem dX6_place_208 : decode cX6_place 208 = .ok (.aaload, 1) := by decide +kernel
theorem dX6_place_209 : decode cX6_place 209 = .ok (.bipush 7, 2) := by decide +kernel
theorem dX6_place_211 : decode cX6_place 211 = .ok (.iload_n 2, 1) := by decide +kernel
theorem dX6_place_212 : decode cX6_place 212 = .ok (.iastore, 1) := by decide +kernel
theorem dX6_place_213 : decode cX6_place 213 = .ok (.aload_n 0, 1) := by decide +kernel
theorem dX6_place_214 : decode cX6_place 214 = .ok (.getfield 18, 3) := by decide +kernel
theorem dX6_place_217 : decode cX6_place 217 = .ok (.iload_n 1, 1) := by decide +kernel
theorem dX6_place_218 : decode cX6_place 218 = .ok (.aaload, 1) := by decide +kernel
theorem dX6_place_219 : decode cX6_place 219 = .ok (.bipush 8, 2) := by decide +kernel
theorem dX6_place_221 : decode cX6_place 221 = .ok (.iload_n 3, 1) := by decide +kernel
theorem dX6_place_222 : decode cX6_place 222 = .ok (.iastore, 1) := by decide +kernel
theorem dX6_place_223 : decode cX6_place 223 = .ok (.aload_n 0, 1) := by decide +kernel
theorem dX6_place_224 : decode cX6_place 224 = .ok (.getfield 18, 3) := by decide +kernel
theorem dX6_place_227 : decode cX6_place 227 = .ok (.iload_n 1, 1) := by decide +kernel
theorem dX6_place_228 : decode cX6_place 228 = .ok (.aaload, 1) := by decide +kernel
theorem dX6_place_229 : decode cX6_place 229 = .ok (.bipush 9, 2) := by decide +kernel
theorem dX6_place_231 : decode cX6_place 231 = .ok (.iload 4, 2) := by decide +kernel
theorem dX6_place_233 : decode cX6_place 233 = .ok (.iastore, 1) := by decide +kernel
theorem dX6_place_234 : decode cX6_place 234 = .ok (.iconst 1, 1) := by decide +kernel
theorem dX6_place_235 : decode cX6_place 235 = .ok (.ireturn, 1) := by decide +kernel
theorem dX6_place_236 : decode cX6_place 236 = .ok (.astore 7, 2) := by decide +kernel
theorem dX6_place_238 : decode cX6_place 238 = .ok (.iload 5, 2) := by decide +kernel
theorem dX6_place_240 : decode cX6_place 240 = .ok (.ifCond .ne 7, 3) := by decide +kernel
theorem dX6_place_243 : decode cX6_place 243 = .ok (.iconst 1, 1) := by decide +kernel
theorem dX6_place_244 : decode cX6_place 244 = .ok (.goto 4, 3) := by decide +kernel
theorem dX6_place_247 : decode cX6_place 247 = .ok (.iconst 0, 1) := by decide +kernel
theorem dX6_place_248 : decode cX6_place 248 = .ok (.ireturn, 1) := by decide +kernel
theorem dX6_need_0 : decode cX6_need 0 = .ok (.aload_n 0, 1) := by decide +kernel
theorem dX6_need_1 : decode cX6_need 1 = .ok (.aload_n 0, 1) := by decide +kernel
theorem dX6_need_2 : decode cX6_need 2 = .ok (.getfield 57, 3) := by decide +kernel
theorem dX6_need_5 : decode cX6_need 5 = .ok (.invokevirtual 60, 3) := by decide +kernel
theorem dX6_need_8 : decode cX6_need 8 = .ok (.istore_n 1, 1) := by decide +kernel
theorem dX6_need_9 : decode cX6_need 9 = .ok (.iload_n 1, 1) := by decide +kernel
theorem dX6_need_10 : decode cX6_need 10 = .ok (.ifCond .eq 11, 3) := by decide +kernel
theorem dX6_need_13 : decode cX6_need 13 = .ok (.aload_n 0, 1) := by decide +kernel
theorem dX6_need_14 : decode cX6_need 14 = .ok (.iconst 4, 1) := by decide +kernel
theorem dX6_need_15 : decode cX6_need 15 = .ok (.invokevirtual 60, 3) := by decide +kernel
theorem dX6_need_18 : decode cX6_need 18 = .ok (.ifCond .ne 7, 3) := by decide +kernel
theorem dX6_need_21 : decode cX6_need 21 = .ok (.iconst (-1), 1) := by decide +kernel
theorem dX6_need_22 : decode cX6_need 22 = .ok (.goto 8, 3) := by decide +kernel
theorem dX6_need_25 : decode cX6_need 25 = .ok (.aload_n 0, 1) := by decide +kernel
theorem dX6_need_26 : decode cX6_need 26 = .ok (.iload_n 1, 1) := by decide +kernel
theorem dX6_need_27 : decode cX6_need 27 = .ok (.invokevirtual 60, 3) := by decide +kernel
theorem dX6_need_30 : decode cX6_need 30 = .ok (.istore_n 2, 1) := by decide +kernel
theorem dX6_need_31 : decode cX6_need 31 = .ok (.aload_n 0, 1) := by decide +kernel
theorem dX6_need_32 : decode cX6_need 32 = .ok (.getfield 18, 3) := by decide +kernel
theorem dX6_need_35 : decode cX6_need 35 = .ok (.iload_n 1, 1) := by decide +kernel
theorem dX6_need_36 : decode cX6_need 36 = .ok (.aaload, 1) := by decide +kernel
theorem dX6_need_37 : decode cX6_need 37 = .ok (.bipush 10, 2) := by decide +kernel
theorem dX6_need_39 : decode cX6_need 39 = .ok (.iaload, 1) := by decide +kernel
theorem dX6_need_40 : decode cX6_need 40 = .ok (.istore_n 3, 1) := by decide +kernel
theorem dX6_need_41 : decode cX6_need 41 = .ok (.aload_n 0, 1) := by decide +kernel
theorem dX6_need_42 : decode cX6_need 42 = .ok (.getfield 18, 3) := by decide +kernel
theorem dX6_need_45 : decode cX6_need 45 = .ok (.iload_n 1, 1) := by decide +kernel
theorem dX6_need_46 : decode cX6_need 46 = .ok (.aaload, 1) := by decide +kernel
theorem dX6_need_47 : decode cX6_need 47 = .ok (.bipush 10, 2) := by decide +kernel
theorem dX6_need_49 : decode cX6_need 49 = .ok (.iload_n 2, 1) := by decide +kernel
theorem dX6_need_50 : decode cX6_need 50 = .ok (.iastore, 1) := by decide +kernel
theorem dX6_need_51 : decode cX6_need 51 = .ok (.aload_n 0, 1) := by decide +kernel
theorem dX6_need_52 : decode cX6_need 52 = .ok (.getfield 18, 3) := by decide +kernel
theorem dX6_need_55 : decode cX6_need 55 = .ok (.iload_n 1, 1) := by decide +kernel
theorem dX6_need_56 : decode cX6_need 56 = .ok (.aaload, 1) := by decide +kernel
theorem dX6_need_57 : decode cX6_need 57 = .ok (.bipush 11, 2) := by decide +kernel
theorem dX6_need_59 : decode cX6_need 59 = .ok (.iload_n 2, 1) := by decide +kernel
theorem dX6_need_60 : decode cX6_need 60 = .ok (.ifCond .ge 7, 3) := by decide +kernel
theorem dX6_need_63 : decode cX6_need 63 = .ok (.iconst 0, 1) := by decide +kernel
theorem dX6_need_64 : decode cX6_need 64 = .ok (.goto 15, 3) := by decide +kernel
theorem dX6_need_67 : decode cX6_need 67 = .ok (.aload_n 0, 1) := by decide +kernel
theorem dX6_need_68 : decode cX6_need 68 = .ok (.aload_n 0, 1) := by decide +kernel
theorem dX6_need_69 : decode cX6_need 69 = .ok (.getfield 18, 3) := by decide +kernel
theorem dX6_need_72 : decode cX6_need 72 = .ok (.iload_n 2, 1) := by decide +kernel
theorem dX6_need_73 : decode cX6_need 73 = .ok (.aaload, 1) := by decide +kernel
theorem dX6_need_74 : decode cX6_need 74 = .ok (.iconst 1, 1) := by decide +kernel
theorem dX6_need_75 : decode cX6_need 75 = .ok (.iaload, 1) := by decide +kernel
theorem dX6_need_76 : decode cX6_need 76 = .ok (.invokevirtual 60, 3) := by decide +kernel
theorem dX6_need_79 : decode cX6_need 79 = .ok (.iastore, 1) := by decide +kernel
theorem dX6_need_80 : decode cX6_need 80 = .ok (.aload_n 0, 1) := by decide +kernel
theorem dX6_need_81 : decode cX6_need 81 = .ok (.getfield 10, 3) := by decide +kernel
theorem dX6_need_84 : decode cX6_need 84 = .ok (.iload_n 1, 1) := by decide +kernel
theorem dX6_need_85 : decode cX6_need 85 = .ok (.iload_n 2, 1) := by decide +kernel
theorem dX6_need_86 : decode cX6_need 86 = .ok (.aload_n 0, 1) := by decide +kernel
theorem dX6_need_87 : decode cX6_need 87 = .ok (.getfield 18, 3) := by decide +kernel
theorem dX6_need_90 : decode cX6_need 90 = .ok (.iload_n 1, 1) := by decide +kernel
theorem dX6_need_91 : decode cX6_need 91 = .ok (.aaload, 1) := by decide +kernel
theorem dX6_need_92 : decode cX6_need 92 = .ok (.bipush 11, 2) := by decide +kernel
theorem dX6_need_94 : decode cX6_need 94 = .ok (.iaload, 1) := by decide +kernel
theorem dX6_need_95 : decode cX6_need 95 = .ok (.invokevirtual 96, 3) := by decide +kernel
theorem dX6_need_98 : decode cX6_need 98 = .ok (.iload_n 3, 1) := by decide +kernel
theorem dX6_need_99 : decode cX6_need 99 = .ok (.if_icmp .ne 7, 3) := by decide +kernel
theorem dX6_need_102 : decode cX6_need 102 = .ok (.iconst 1, 1) := by decide +kernel
theorem dX6_need_103 : decode cX6_need 103 = .ok (.goto 4, 3) := by decide +kernel
theorem dX6_need_106 : decode cX6_need 106 = .ok (.iconst 0, 1) := by decide +kernel
theorem dX6_need_107 : decode cX6_need 107 = .ok (.ireturn, 1) := by decide +kernel
theorem dX6_rule_0 : decode cX6_rule 0 = .ok (.aload_n 0, 1) := by decide +kernel
theorem dX6_rule_1 : decode cX6_rule 1 = .ok (.aload_n 0, 1) := by decide +kernel
theorem dX6_rule_2 : decode cX6_rule 2 = .ok (.getfield 57, 3) := by decide +kernel
theorem dX6_rule_5 : decode cX6_rule 5 = .ok (.invokevirtual 60, 3) := by decide +kernel
theorem dX6_rule_8 : decode cX6_rule 8 = .ok (.istore_n 1, 1) := by decide +kernel
theorem dX6_rule_9 : decode cX6_rule 9 = .ok (.aload_n 0, 1) := by decide +kernel
theorem dX6_rule_10 : decode cX6_rule 10 = .ok (.getfield 28, 3) := by decide +kernel
theorem dX6_rule_13 : decode cX6_rule 13 = .ok (.iload_n 1, 1) := by decide +kernel
theorem dX6_rule_14 : decode cX6_rule 14 = .ok (.aaload, 1) := by decide +kernel
theorem dX6_rule_15 : decode cX6_rule 15 = .ok (.arraylength, 1) := by decide +kernel
theorem dX6_rule_16 : decode cX6_rule 16 = .ok (.iconst 5, 1) := by decide +kernel
theorem dX6_rule_17 : decode cX6_rule 17 = .ok (.if_icmp .ne 31, 3) := by decide +kernel
theorem dX6_rule_20 : decode cX6_rule 20 = .ok (.aload_n 0, 1) := by decide +kernel
theorem dX6_rule_21 : decode cX6_rule 21 = .ok (.getfield 10, 3) := by decide +kernel
theorem dX6_rule_24 : decode cX6_rule 24 = .ok (.iload_n 1, 1) := by decide +kernel
theorem dX6_rule_25 : decode cX6_rule 25 = .ok (.iconst 2, 1) := by decide +kernel
theorem dX6_rule_26 : decode cX6_rule 26 = .ok (.invokevirtual 99, 3) := by decide +kernel
theorem dX6_rule_29 : decode cX6_rule 29 = .ok (.iconst 4, 1) := by decide +kernel
theorem dX6_rule_30 : decode cX6_rule 30 = .ok (.if_icmp .ne 16, 3) := by decide +kernel
theorem dX6_rule_33 : decode cX6_rule 33 = .ok (.aload_n 0, 1) := by decide +kernel
theorem dX6_rule_34 : decode cX6_rule 34 = .ok (.iload_n 1, 1) := by decide +kernel
theorem dX6_rule_35 : decode cX6_rule 35 = .ok (.iconst 2, 1) := by decide +kernel
theorem dX6_rule_36 : decode cX6_rule 36 = .ok (.invokevirtual 102, 3) := by decide +kernel
theorem dX6_rule_39 : decode cX6_rule 39 = .ok (.ifCond .eq 7, 3) := by decide +kernel
theorem dX6_rule_42 : decode cX6_rule 42 = .ok (.iconst 1, 1) := by decide +kernel
theorem dX6_rule_43 : decode cX6_rule 43 = .ok (.goto 4, 3) := by decide +kernel
theorem dX6_rule_46 : decode cX6_rule 46 = .ok (.iconst 0, 1) := by decide +kernel
theorem dX6_rule_47 : decode cX6_rule 47 = .ok (.ireturn, 1) := by decide +kernel
theorem dX6_rule_48 : decode cX6_rule 48 = .ok (.iconst 4, 1) := by decide +kernel
theorem dX6_rule_49 : decode cX6_rule 49 = .ok (.newarray .int, 2) := by decide +kernel
theorem dX6_rule_51 : decode cX6_rule 51 = .ok (.dup, 1) := by decide +kernel
theorem dX6_rule_52 : decode cX6_rule 52 = .ok (.iconst 0, 1) := by decide +kernel
theorem dX6_rule_53 : decode cX6_rule 53 = .ok (.aload_n 0, 1) := by decide +kernel
theorem dX6_rule_54 : decode cX6_rule 54 = .ok (.iconst 2, 1) := by decide +kernel
theorem dX6_rule_55 : decode cX6_rule 55 = .ok (.invokevirtual 60, 3) := by decide +kernel
theorem dX6_rule_58 : decode cX6_rule 58 = .ok (.iastore, 1) := by decide +kernel
theorem dX6_rule_59 : decode cX6_rule 59 = .ok (.dup, 1) := by decide +kernel
theorem dX6_rule_60 : decode cX6_rule 60 = .ok (.iconst 1, 1) := by decide +kernel
theorem dX6_rule_61 : decode cX6_rule 61 = .ok (.iconst 1, 1) := by decide +kernel
theorem dX6_rule_62 : decode cX6_rule 62 = .ok (.aload_n 0, 1) := by decide +kernel
theorem dX6_rule_63 : decode cX6_rule 63 = .ok (.iconst 3, 1) := by decide +kernel
theorem dX6_rule_64 : decode cX6_rule 64 = .ok (.invokevirtual 60, 3) := by decide +kernel
theorem dX6_rule_67 : decode cX6_rule 67 = .ok (.iadd, 1) := by decide +kernel
theorem dX6_rule_68 : decode cX6_rule 68 = .ok (.iastore, 1) := by decide +kernel
theorem dX6_rule_69 : decode cX6_rule 69 = .ok (.dup, 1) := by decide +kernel
theorem dX6_rule_70 : decode cX6_rule 70 = .ok (.iconst 2, 1) := by decide +kernel
theorem dX6_rule_71 : decode cX6_rule 71 = .ok (.aload_n 0, 1) := by decide +kernel
theorem dX6_rule_72 : decode cX6_rule 72 = .ok (.bipush 10, 2) := by decide +kernel
theorem dX6_rule_74 : decode cX6_rule 74 = .ok (.invokevirtual 60, 3) := by decide +kernel
theorem dX6_rule_77 : decode cX6_rule 77 = .ok (.iastore, 1) := by decide +kernel
theorem dX6_rule_78 : decode cX6_rule 78 = .ok (.dup, 1) := by decide +kernel
theorem dX6_rule_79 : decode cX6_rule 79 = .ok (.iconst 3, 1) := by decide +kernel
theorem dX6_rule_80 : decode cX6_rule 80 = .ok (.aload_n 0, 1) := by decide +kernel
theorem dX6_rule_81 : decode cX6_rule 81 = .ok (.iconst 3, 1) := by decide +kernel
theorem dX6_rule_82 : decode cX6_rule 82 = .ok (.invokevirtual 60, 3) := by decide +kernel
theorem dX6_rule_85 : decode cX6_rule 85 = .ok (.ifCond .ne 7, 3) := by decide +kernel
theorem dX6_rule_88 : decode cX6_rule 88 = .ok (.iconst (-1), 1) := by decide +kernel
theorem dX6_rule_89 : decode cX6_rule 89 = .ok (.goto 15, 3) := by decide +kernel
theorem dX6_rule_92 : decode cX6_rule 92 = .ok (.aload_n 0, 1) := by decide +kernel
theorem dX6_rule_93 : decode cX6_rule 93 = .ok (.aload_n 0, 1) := by decide +kernel
theorem dX6_rule_94 : decode cX6_rule 94 = .ok (.getfield 18, 3) := by decide +kernel
theorem dX6_rule_97 : decode cX6_rule 97 = .ok (.iload_n 1, 1) := by decide +kernel
theorem dX6_rule_98 : decode cX6_rule 98 = .ok (.aaload, 1) := by decide +kernel
theorem dX6_rule_99 : decode cX6_rule 99 = .ok (.iconst 1, 1) := by decide +kernel
theorem dX6_rule_100 : decode cX6_rule 100 = .ok (.iaload, 1) := by decide +kernel
theorem dX6_rule_101 : decode cX6_rule 101 = .ok (.invokevirtual 60, 3) := by decide +kernel
theorem dX6_rule_104 : decode cX6_rule 104 = .ok (.iastore, 1) := by decide +kernel
theorem dX6_rule_105 : decode cX6_rule 105 = .ok (.astore_n 2, 1) := by decide +kernel
theorem dX6_rule_106 : decode cX6_rule 106 = .ok (.aload_n 0, 1) := by decide +kernel
theorem dX6_rule_107 : decode cX6_rule 107 = .ok (.getfield 28, 3) := by decide +kernel
theorem dX6_rule_110 : decode cX6_rule 110 = .ok (.iload_n 1, 1) := by decide +kernel
theorem dX6_rule_111 : decode cX6_rule 111 = .ok (.aload_n 0, 1) := by decide +kernel
theorem dX6_rule_112 : decode cX6_rule 112 = .ok (.getfield 28, 3) := by decide +kernel
theorem dX6_rule_115 : decode cX6_rule 115 = .ok (.iload_n 1, 1) := by decide +kernel
theorem dX6_rule_116 : decode cX6_rule 116 = .ok (.aaload, 1) := by decide +kernel
theorem dX6_rule_117 : decode cX6_rule 117 = .ok (.aload_n 2, 1) := by decide +kernel
theorem dX6_rule_118 : decode cX6_rule 118 = .ok (.invokestatic 106, 3) := by decide +kernel
theorem dX6_rule_121 : decode cX6_rule 121 = .ok (.aastore, 1) := by decide +kernel
theorem dX6_rule_122 : decode cX6_rule 122 = .ok (.aload_n 0, 1) := by decide +kernel
theorem dX6_rule_123 : decode cX6_rule 123 = .ok (.getfield 10, 3) := by decide +kernel
theorem dX6_rule_126 : decode cX6_rule 126 = .ok (.iload_n 1, 1) := by decide +kernel
theorem dX6_rule_127 : decode cX6_rule 127 = .ok (.aload_n 2, 1) := by decide +kernel
theorem dX6_rule_128 : decode cX6_rule 128 = .ok (.iconst 0, 1) := by decide +kernel
theorem dX6_rule_129 : decode cX6_rule 129 = .ok (.iaload, 1) := by decide +kernel
theorem dX6_rule_130 : decode cX6_rule 130 = .ok (.aload_n 2, 1) := by decide +kernel
theorem dX6_rule_131 : decode cX6_rule 131 = .ok (.iconst 1, 1) := by decide +kernel
theorem dX6_rule_132 : decode cX6_rule 132 = .ok (.iaload, 1) := by decide +kernel
theorem dX6_rule_133 : decode cX6_rule 133 = .ok (.aload_n 2, 1) := by decide +kernel
theorem dX6_rule_134 : decode cX6_rule 134 = .ok (.iconst 2, 1) := by decide +kernel
theorem dX6_rule_135 : decode cX6_rule 135 = .ok (.iaload, 1) := by decide +kernel
theorem dX6_rule_136 : decode cX6_rule 136 = .ok (.aload_n 2, 1) := by decide +kernel
theorem dX6_rule_137 : decode cX6_rule 137 = .ok (.iconst 3, 1) := by decide +kernel
theorem dX6_rule_138 : decode cX6_rule 138 = .ok (.iaload, 1) := by decide +kernel
theorem dX6_rule_139 : decode cX6_rule 139 = .ok (.invokevirtual 110, 3) := by decide +kernel
theorem dX6_rule_142 : decode cX6_rule 142 = .ok (.aload_n 0, 1) := by decide +kernel
theorem dX6_rule_143 : decode cX6_rule 143 = .ok (.getfield 28, 3) := by decide +kernel
theorem dX6_rule_146 : decode cX6_rule 146 = .ok (.iload_n 1, 1) := by decide +kernel
theorem dX6_rule_147 : decode cX6_rule 147 = .ok (.aaload, 1) := by decide +kernel
theorem dX6_rule_148 : decode cX6_rule 148 = .ok (.arraylength, 1) := by decide +kernel
theorem dX6_rule_149 : decode cX6_rule 149 = .ok (.if_icmp .ne 7, 3) := by decide +kernel
theorem dX6_rule_152 : decode cX6_rule 152 = .ok (.iconst 1, 1) := by decide +kernel
theorem dX6_rule_153 : decode cX6_rule 153 = .ok (.goto 4, 3) := by decide +kernel
theorem dX6_rule_156 : decode cX6_rule 156 = .ok (.iconst 0, 1) := by decide +kernel
theorem dX6_rule_157 : decode cX6_rule 157 = .ok (.ireturn, 1) := by decide +kernel
theorem dX6_dropRule_0 : decode cX6_dropRule 0 = .ok (.aload_n 0, 1) := by decide +kernel
theorem dX6_dropRule_1 : decode cX6_dropRule 1 = .ok (.getfield 28, 3) := by decide +kernel
theorem dX6_dropRule_4 : decode cX6_dropRule 4 = .ok (.iload_n 1, 1) := by decide +kernel
theorem dX6_dropRule_5 : decode cX6_dropRule 5 = .ok (.aaload, 1) := by decide +kernel
theorem dX6_dropRule_6 : decode cX6_dropRule 6 = .ok (.arraylength, 1) := by decide +kernel
theorem dX6_dropRule_7 : decode cX6_dropRule 7 = .ok (.iconst 1, 1) := by decide +kernel
theorem dX6_dropRule_8 : decode cX6_dropRule 8 = .ok (.isub, 1) := by decide +kernel
theorem dX6_dropRule_9 : decode cX6_dropRule 9 = .ok (.anewarray 16, 3) := by decide +kernel
theorem dX6_dropRule_12 : decode cX6_dropRule 12 = .ok (.astore_n 3, 1) := by decide +kernel
theorem dX6_dropRule_13 : decode cX6_dropRule 13 = .ok (.iconst 0, 1) := by decide +kernel
theorem dX6_dropRule_14 : decode cX6_dropRule 14 = .ok (.istore 4, 2) := by decide +kernel
theorem dX6_dropRule_16 : decode cX6_dropRule 16 = .ok (.iload 4, 2) := by decide +kernel
theorem dX6_dropRule_18 : decode cX6_dropRule 18 = .ok (.aload_n 3, 1) := by decide +kernel
theorem dX6_dropRule_19 : decode cX6_dropRule 19 = .ok (.arraylength, 1) := by decide +kernel
theorem dX6_dropRule_20 : decode cX6_dropRule 20 = .ok (.if_icmp .ge 35, 3) := by decide +kernel
theorem dX6_dropRule_23 : decode cX6_dropRule 23 = .ok (.aload_n 3, 1) := by decide +kernel
theorem dX6_dropRule_24 : decode cX6_dropRule 24 = .ok (.iload 4, 2) := by decide +kernel
theorem dX6_dropRule_26 : decode cX6_dropRule 26 = .ok (.aload_n 0, 1) := by decide +kernel
theorem dX6_dropRule_27 : decode cX6_dropRule 27 = .ok (.getfield 28, 3) := by decide +kernel
theorem dX6_dropRule_30 : decode cX6_dropRule 30 = .ok (.iload_n 1, 1) := by decide +kernel
theorem dX6_dropRule_31 : decode cX6_dropRule 31 = .ok (.aaload, 1) := by decide +kernel
theorem dX6_dropRule_32 : decode cX6_dropRule 32 = .ok (.iload 4, 2) := by decide +kernel
theorem dX6_dropRule_34 : decode cX6_dropRule 34 = .ok (.iload_n 2, 1) := by decide +kernel
theorem dX6_dropRule_35 : decode cX6_dropRule 35 = .ok (.if_icmp .ge 8, 3) := by decide +kernel
theorem dX6_dropRule_38 : decode cX6_dropRule 38 = .ok (.iload 4, 2) := by decide +kernel
theorem dX6_dropRule_40 : decode cX6_dropRule 40 = .ok (.goto 7, 3) := by decide +kernel
theorem dX6_dropRule_43 : decode cX6_dropRule 43 = .ok (.iload 4, 2) := by decide +kernel
theorem dX6_dropRule_45 : decode cX6_dropRule 45 = .ok (.iconst 1, 1) := by decide +kernel
theorem dX6_dropRule_46 : decode cX6_dropRule 46 = .ok (.iadd, 1) := by decide +kernel
theorem dX6_dropRule_47 : decode cX6_dropRule 47 = .ok (.aaload, 1) := by decide +kernel
theorem dX6_dropRule_48 : decode cX6_dropRule 48 = .ok (.aastore, 1) := by decide +kernel
theorem dX6_dropRule_49 : decode cX6_dropRule 49 = .ok (.iinc 4 1, 3) := by decide +kernel
theorem dX6_dropRule_52 : decode cX6_dropRule 52 = .ok (.goto (-36), 3) := by decide +kernel
theorem dX6_dropRule_55 : decode cX6_dropRule 55 = .ok (.aload_n 0, 1) := by decide +kernel
theorem dX6_dropRule_56 : decode cX6_dropRule 56 = .ok (.getfield 28, 3) := by decide +kernel
theorem dX6_dropRule_59 : decode cX6_dropRule 59 = .ok (.iload_n 1, 1) := by decide +kernel
theorem dX6_dropRule_60 : decode cX6_dropRule 60 = .ok (.aload_n 3, 1) := by decide +kernel
theorem dX6_dropRule_61 : decode cX6_dropRule 61 = .ok (.aastore, 1) := by decide +kernel
theorem dX6_dropRule_62 : decode cX6_dropRule 62 = .ok (.iconst 1, 1) := by decide +kernel
theorem dX6_dropRule_63 : decode cX6_dropRule 63 = .ok (.ireturn, 1) := by decide +kernel
theorem dX6_unrule_0 : decode cX6_unrule 0 = .ok (.aload_n 0, 1) := by decide +kernel
theorem dX6_unrule_1 : decode cX6_unrule 1 = .ok (.aload_n 0, 1) := by decide +kernel
theorem dX6_unrule_2 : decode cX6_unrule 2 = .ok (.getfield 57, 3) := by decide +kernel
theorem dX6_unrule_5 : decode cX6_unrule 5 = .ok (.invokevirtual 60, 3) := by decide +kernel
theorem dX6_unrule_8 : decode cX6_unrule 8 = .ok (.istore_n 1, 1) := by decide +kernel
theorem dX6_unrule_9 : decode cX6_unrule 9 = .ok (.aload_n 0, 1) := by decide +kernel
theorem dX6_unrule_10 : decode cX6_unrule 10 = .ok (.iconst 5, 1) := by decide +kernel
theorem dX6_unrule_11 : decode cX6_unrule 11 = .ok (.invokevirtual 60, 3) := by decide +kernel
theorem dX6_unrule_14 : decode cX6_unrule 14 = .ok (.istore_n 2, 1) := by decide +kernel
theorem dX6_unrule_15 : decode cX6_unrule 15 = .ok (.iload_n 2, 1) := by decide +kernel
theorem dX6_unrule_16 : decode cX6_unrule 16 = .ok (.aload_n 0, 1) := by decide +kernel
theorem dX6_unrule_17 : decode cX6_unrule 17 = .ok (.getfield 28, 3) := by decide +kernel
theorem dX6_unrule_20 : decode cX6_unrule 20 = .ok (.iload_n 1, 1) := by decide +kernel
theorem dX6_unrule_21 : decode cX6_unrule 21 = .ok (.aaload, 1) := by decide +kernel
theorem dX6_unrule_22 : decode cX6_unrule 22 = .ok (.arraylength, 1) := by decide +kernel
theorem dX6_unrule_23 : decode cX6_unrule 23 = .ok (.if_icmp .lt 5, 3) := by decide +kernel
theorem dX6_unrule_26 : decode cX6_unrule 26 = .ok (.iconst 1, 1) := by decide +kernel
theorem dX6_unrule_27 : decode cX6_unrule 27 = .ok (.ireturn, 1) := by decide +kernel
theorem dX6_unrule_28 : decode cX6_unrule 28 = .ok (.aload_n 0, 1) := by decide +kernel
theorem dX6_unrule_29 : decode cX6_unrule 29 = .ok (.getfield 10, 3) := by decide +kernel
theorem dX6_unrule_32 : decode cX6_unrule 32 = .ok (.iload_n 1, 1) := by decide +kernel
theorem dX6_unrule_33 : decode cX6_unrule 33 = .ok (.iload_n 2, 1) := by decide +kernel
theorem dX6_unrule_34 : decode cX6_unrule 34 = .ok (.invokevirtual 99, 3) := by decide +kernel
theorem dX6_unrule_37 : decode cX6_unrule 37 = .ok (.aload_n 0, 1) := by decide +kernel
theorem dX6_unrule_38 : decode cX6_unrule 38 = .ok (.getfield 28, 3) := by decide +kernel
theorem dX6_unrule_41 : decode cX6_unrule 41 = .ok (.iload_n 1, 1) := by decide +kernel
theorem dX6_unrule_42 : decode cX6_unrule 42 = .ok (.aaload, 1) := by decide +kernel
theorem dX6_unrule_43 : decode cX6_unrule 43 = .ok (.arraylength, 1) := by decide +kernel
theorem dX6_unrule_44 : decode cX6_unrule 44 = .ok (.iconst 1, 1) := by decide +kernel
theorem dX6_unrule_45 : decode cX6_unrule 45 = .ok (.isub, 1) := by decide +kernel
theorem dX6_unrule_46 : decode cX6_unrule 46 = .ok (.if_icmp .ne 16, 3) := by decide +kernel
theorem dX6_unrule_49 : decode cX6_unrule 49 = .ok (.aload_n 0, 1) := by decide +kernel
theorem dX6_unrule_50 : decode cX6_unrule 50 = .ok (.iload_n 1, 1) := by decide +kernel
theorem dX6_unrule_51 : decode cX6_unrule 51 = .ok (.iload_n 2, 1) := by decide +kernel
theorem dX6_unrule_52 : decode cX6_unrule 52 = .ok (.invokevirtual 102, 3) := by decide +kernel
theorem dX6_unrule_55 : decode cX6_unrule 55 = .ok (.ifCond .eq 7, 3) := by decide +kernel
theorem dX6_unrule_58 : decode cX6_unrule 58 = .ok (.iconst 1, 1) := by decide +kernel
theorem dX6_unrule_59 : decode cX6_unrule 59 = .ok (.goto 4, 3) := by decide +kernel
theorem dX6_unrule_62 : decode cX6_unrule 62 = .ok (.iconst 0, 1) := by decide +kernel
theorem dX6_unrule_63 : decode cX6_unrule 63 = .ok (.ireturn, 1) := by decide +kernel
theorem dX6_hold_0 : decode cX6_hold 0 = .ok (.aload_n 0, 1) := by decide +kernel
theorem dX6_hold_1 : decode cX6_hold 1 = .ok (.getfield 114, 3) := by decide +kernel
theorem dX6_hold_4 : decode cX6_hold 4 = .ok (.istore_n 1, 1) := by decide +kernel
theorem dX6_hold_5 : decode cX6_hold 5 = .ok (.aload_n 0, 1) := by decide +kernel
theorem dX6_hold_6 : decode cX6_hold 6 = .ok (.aload_n 0, 1) := by decide +kernel
theorem dX6_hold_7 : decode cX6_hold 7 = .ok (.iconst 2, 1) := by decide +kernel
theorem dX6_hold_8 : decode cX6_hold 8 = .ok (.invokevirtual 60, 3) := by decide +kernel
theorem dX6_hold_11 : decode cX6_hold 11 = .ok (.ifCond .ne 7, 3) := by decide +kernel
theorem dX6_hold_14 : decode cX6_hold 14 = .ok (.iconst 0, 1) := by decide +kernel
theorem dX6_hold_15 : decode cX6_hold 15 = .ok (.goto 10, 3) := by decide +kernel
theorem dX6_hold_18 : decode cX6_hold 18 = .ok (.aload_n 0, 1) := by decide +kernel
theorem dX6_hold_19 : decode cX6_hold 19 = .ok (.sipush 300, 3) := by decide +kernel
theorem dX6_hold_22 : decode cX6_hold 22 = .ok (.invokevirtual 60, 3) := by decide +kernel
theorem dX6_hold_25 : decode cX6_hold 25 = .ok (.putfield 114, 3) := by decide +kernel
theorem dX6_hold_28 : decode cX6_hold 28 = .ok (.aload_n 0, 1) := by decide +kernel
theorem dX6_hold_29 : decode cX6_hold 29 = .ok (.getfield 10, 3) := by decide +kernel
theorem dX6_hold_32 : decode cX6_hold 32 = .ok (.aload_n 0, 1) := by decide +kernel
theorem dX6_hold_33 : decode cX6_hold 33 = .ok (.getfield 114, 3) := by decide +kernel
theorem dX6_hold_36 : decode cX6_hold 36 = .ok (.invokevirtual 117, 3) := by decide +kernel
theorem dX6_hold_39 : decode cX6_hold 39 = .ok (.iload_n 1, 1) := by decide +kernel
theorem dX6_hold_40 : decode cX6_hold 40 = .ok (.if_icmp .ne 7, 3) := by decide +kernel
theorem dX6_hold_43 : decode cX6_hold 43 = .ok (.iconst 1, 1) := by decide +kernel
theorem dX6_hold_44 : decode cX6_hold 44 = .ok (.goto 4, 3) := by decide +kernel
theorem dX6_hold_47 : decode cX6_hold 47 = .ok (.iconst 0, 1) := by decide +kernel
theorem dX6_hold_48 : decode cX6_hold 48 = .ok (.ireturn, 1) := by decide +kernel
theorem dX6_goOn_0 : decode cX6_goOn 0 = .ok (.iconst 1, 1) := by decide +kernel
theorem dX6_goOn_1 : decode cX6_goOn 1 = .ok (.aload_n 0, 1) := by decide +kernel
theorem dX6_goOn_2 : decode cX6_goOn 2 = .ok (.iconst 4, 1) := by decide +kernel
theorem dX6_goOn_3 : decode cX6_goOn 3 = .ok (.invokevirtual 60, 3) := by decide +kernel
theorem dX6_goOn_6 : decode cX6_goOn 6 = .ok (.iadd, 1) := by decide +kernel
theorem dX6_goOn_7 : decode cX6_goOn 7 = .ok (.istore_n 1, 1) := by decide +kernel
theorem dX6_goOn_8 : decode cX6_goOn 8 = .ok (.aload_n 0, 1) := by decide +kernel
theorem dX6_goOn_9 : decode cX6_goOn 9 = .ok (.dup, 1) := by decide +kernel
theorem dX6_goOn_10 : decode cX6_goOn 10 = .ok (.getfield 64, 3) := by decide +kernel
theorem dX6_goOn_13 : decode cX6_goOn 13 = .ok (.iload_n 1, 1) := by decide +kernel
theorem dX6_goOn_14 : decode cX6_goOn 14 = .ok (.iadd, 1) := by decide +kernel
theorem dX6_goOn_15 : decode cX6_goOn 15 = .ok (.putfield 64, 3) := by decide +kernel
theorem dX6_goOn_18 : decode cX6_goOn 18 = .ok (.aload_n 0, 1) := by decide +kernel
theorem dX6_goOn_19 : decode cX6_goOn 19 = .ok (.getfield 10, 3) := by decide +kernel
theorem dX6_goOn_22 : decode cX6_goOn 22 = .ok (.iload_n 1, 1) := by decide +kernel
theorem dX6_goOn_23 : decode cX6_goOn 23 = .ok (.invokevirtual 120, 3) := by decide +kernel
theorem dX6_goOn_26 : decode cX6_goOn 26 = .ok (.aload_n 0, 1) := by decide +kernel
theorem dX6_goOn_27 : decode cX6_goOn 27 = .ok (.getfield 64, 3) := by decide +kernel
theorem dX6_goOn_30 : decode cX6_goOn 30 = .ok (.if_icmp .ne 7, 3) := by decide +kernel
theorem dX6_goOn_33 : decode cX6_goOn 33 = .ok (.iconst 1, 1) := by decide +kernel
theorem dX6_goOn_34 : decode cX6_goOn 34 = .ok (.goto 4, 3) := by decide +kernel
theorem dX6_goOn_37 : decode cX6_goOn 37 = .ok (.iconst 0, 1) := by decide +kernel
theorem dX6_goOn_38 : decode cX6_goOn 38 = .ok (.ireturn, 1) := by decide +kernel
theorem dX6_found_0 : decode cX6_found 0 = .ok (.iconst 0, 1) := by decide +kernel
theorem dX6_found_1 : decode cX6_found 1 = .ok (.istore_n 1, 1) := by decide +kernel
theorem dX6_found_2 : decode cX6_found 2 = .ok (.iload_n 1, 1) := by decide +kernel
theorem dX6_found_3 : decode cX6_found 3 = .ok (.iconst 4, 1) := by decide +kernel
theorem dX6_found_4 : decode cX6_found 4 = .ok (.if_icmp .ge 18, 3) := by decide +kernel
theorem dX6_found_7 : decode cX6_found 7 = .ok (.aload_n 0, 1) := by decide +kernel
theorem dX6_found_8 : decode cX6_found 8 = .ok (.invokevirtual 123, 3) := by decide +kernel
theorem dX6_found_11 : decode cX6_found 11 = .ok (.ifCond .ne 5, 3) := by decide +kernel
theorem dX6_found_14 : decode cX6_found 14 = .ok (.iconst 0, 1) := by decide +kernel
theorem dX6_found_15 : decode cX6_found 15 = .ok (.ireturn, 1) := by decide +kernel
theorem dX6_found_16 : decode cX6_found 16 = .ok (.iinc 1 1, 3) := by decide +kernel
theorem dX6_found_19 : decode cX6_found 19 = .ok (.goto (-17), 3) := by decide +kernel
theorem dX6_found_22 : decode cX6_found 22 = .ok (.iconst 0, 1) := by decide +kernel
theorem dX6_found_23 : decode cX6_found 23 = .ok (.istore_n 1, 1) := by decide +kernel
theorem dX6_found_24 : decode cX6_found 24 = .ok (.iload_n 1, 1) := by decide +kernel
theorem dX6_found_25 : decode cX6_found 25 = .ok (.bipush 6, 2) := by decide +kernel
theorem dX6_found_27 : decode cX6_found 27 = .ok (.if_icmp .ge 56, 3) := by decide +kernel
theorem dX6_found_30 : decode cX6_found 30 = .ok (.aload_n 0, 1) := by decide +kernel
theorem dX6_found_31 : decode cX6_found 31 = .ok (.invokevirtual 126, 3) := by decide +kernel
theorem dX6_found_34 : decode cX6_found 34 = .ok (.ifCond .eq 41, 3) := by decide +kernel
theorem dX6_found_37 : decode cX6_found 37 = .ok (.aload_n 0, 1) := by decide +kernel
theorem dX6_found_38 : decode cX6_found 38 = .ok (.invokevirtual 128, 3) := by decide +kernel
theorem dX6_found_41 : decode cX6_found 41 = .ok (.ifCond .eq 34, 3) := by decide +kernel
theorem dX6_found_44 : decode cX6_found 44 = .ok (.iload_n 1, 1) := by decide +kernel
theorem dX6_found_45 : decode cX6_found 45 = .ok (.iconst 3, 1) := by decide +kernel
theorem dX6_found_46 : decode cX6_found 46 = .ok (.if_icmp .ge 10, 3) := by decide +kernel
theorem dX6_found_49 : decode cX6_found 49 = .ok (.aload_n 0, 1) := by decide +kernel
theorem dX6_found_50 : decode cX6_found 50 = .ok (.invokevirtual 130, 3) := by decide +kernel
theorem dX6_found_53 : decode cX6_found 53 = .ok (.ifCond .eq 22, 3) := by decide +kernel
theorem dX6_found_56 : decode cX6_found 56 = .ok (.iload_n 1, 1) := by decide +kernel
theorem dX6_found_57 : decode cX6_found 57 = .ok (.iconst 2, 1) := by decide +kernel
theorem dX6_found_58 : decode cX6_found 58 = .ok (.if_icmp .ge 19, 3) := by decide +kernel
theorem dX6_found_61 : decode cX6_found 61 = .ok (.aload_n 0, 1) := by decide +kernel
theorem dX6_found_62 : decode cX6_found 62 = .ok (.invokevirtual 132, 3) := by decide +kernel
theorem dX6_found_65 : decode cX6_found 65 = .ok (.ifCond .eq 10, 3) := by decide +kernel
theorem dX6_found_68 : decode cX6_found 68 = .ok (.aload_n 0, 1) := by decide +kernel
theorem dX6_found_69 : decode cX6_found 69 = .ok (.invokevirtual 134, 3) := by decide +kernel
theorem dX6_found_72 : decode cX6_found 72 = .ok (.ifCond .ne 5, 3) := by decide +kernel
theorem dX6_found_75 : decode cX6_found 75 = .ok (.iconst 0, 1) := by decide +kernel
theorem dX6_found_76 : decode cX6_found 76 = .ok (.ireturn, 1) := by decide +kernel
theorem dX6_found_77 : decode cX6_found 77 = .ok (.iinc 1 1, 3) := by decide +kernel
theorem dX6_found_80 : decode cX6_found 80 = .ok (.goto (-56), 3) := by decide +kernel
theorem dX6_found_83 : decode cX6_found 83 = .ok (.iconst 0, 1) := by decide +kernel
theorem dX6_found_84 : decode cX6_found 84 = .ok (.istore_n 1, 1) := by decide +kernel
theorem dX6_found_85 : decode cX6_found 85 = .ok (.iload_n 1, 1) := by decide +kernel
theorem dX6_found_86 : decode cX6_found 86 = .ok (.aload_n 0, 1) := by decide +kernel
theorem dX6_found_87 : decode cX6_found 87 = .ok (.getfield 57, 3) := by decide +kernel
theorem dX6_found_90 : decode cX6_found 90 = .ok (.if_icmp .ge 49, 3) := by decide +kernel
theorem dX6_found_93 : decode cX6_found 93 = .ok (.aload_n 0, 1) := by decide +kernel
theorem dX6_found_94 : decode cX6_found 94 = .ok (.getfield 10, 3) := by decide +kernel
theorem dX6_found_97 : decode cX6_found 97 = .ok (.iload_n 1, 1) := by decide +kernel
theorem dX6_found_98 : decode cX6_found 98 = .ok (.iconst 1, 1) := by decide +kernel
theorem dX6_found_99 : decode cX6_found 99 = .ok (.invokevirtual 75, 3) := by decide +kernel
theorem dX6_found_102 : decode cX6_found 102 = .ok (.aload_n 0, 1) := by decide +kernel
theorem dX6_found_103 : decode cX6_found 103 = .ok (.getfield 18, 3) := by decide +kernel
theorem dX6_found_106 : decode cX6_found 106 = .ok (.iload_n 1, 1) := by decide +kernel
theorem dX6_found_107 : decode cX6_found 107 = .ok (.aaload, 1) := by decide +kernel
theorem dX6_found_108 : decode cX6_found 108 = .ok (.iconst 3, 1) := by decide +kernel
theorem dX6_found_109 : decode cX6_found 109 = .ok (.iaload, 1) := by decide +kernel
theorem dX6_found_110 : decode cX6_found 110 = .ok (.iconst 1, 1) := by decide +kernel
theorem dX6_found_111 : decode cX6_found 111 = .ok (.if_icmp .ne 7, 3) := by decide +kernel
theorem dX6_found_114 : decode cX6_found 114 = .ok (.iconst 1, 1) := by decide +kernel
theorem dX6_found_115 : decode cX6_found 115 = .ok (.goto 4, 3) := by decide +kernel
theorem dX6_found_118 : decode cX6_found 118 = .ok (.iconst 0, 1) := by decide +kernel
theorem dX6_found_119 : decode cX6_found 119 = .ok (.if_icmp .eq 5, 3) := by decide +kernel
theorem dX6_found_122 : decode cX6_found 122 = .ok (.iconst 0, 1) := by decide +kernel
theorem dX6_found_123 : decode cX6_found 123 = .ok (.ireturn, 1) := by decide +kernel
theorem dX6_found_124 : decode cX6_found 124 = .ok (.aload_n 0, 1) := by decide +kernel
theorem dX6_found_125 : decode cX6_found 125 = .ok (.getfield 18, 3) := by decide +kernel
theorem dX6_found_128 : decode cX6_found 128 = .ok (.iload_n 1, 1) := by decide +kernel
theorem dX6_found_129 : decode cX6_found 129 = .ok (.aaload, 1) := by decide +kernel
theorem dX6_found_130 : decode cX6_found 130 = .ok (.iconst 3, 1) := by decide +kernel
theorem dX6_found_131 : decode cX6_found 131 = .ok (.iconst 1, 1) := by decide +kernel
theorem dX6_found_132 : decode cX6_found 132 = .ok (.iastore, 1) := by decide +kernel
theorem dX6_found_133 : decode cX6_found 133 = .ok (.iinc 1 1, 3) := by decide +kernel
theorem dX6_found_136 : decode cX6_found 136 = .ok (.goto (-51), 3) := by decide +kernel
theorem dX6_found_139 : decode cX6_found 139 = .ok (.aload_n 0, 1) := by decide +kernel
theorem dX6_found_140 : decode cX6_found 140 = .ok (.invokevirtual 136, 3) := by decide +kernel
theorem dX6_found_143 : decode cX6_found 143 = .ok (.ifCond .eq 21, 3) := by decide +kernel
theorem dX6_found_146 : decode cX6_found 146 = .ok (.aload_n 0, 1) := by decide +kernel
theorem dX6_found_147 : decode cX6_found 147 = .ok (.invokevirtual 136, 3) := by decide +kernel
theorem dX6_found_150 : decode cX6_found 150 = .ok (.ifCond .eq 14, 3) := by decide +kernel
theorem dX6_found_153 : decode cX6_found 153 = .ok (.aload_n 0, 1) := by decide +kernel
theorem dX6_found_154 : decode cX6_found 154 = .ok (.invokevirtual 138, 3) := by decide +kernel
theorem dX6_found_157 : decode cX6_found 157 = .ok (.ifCond .eq 7, 3) := by decide +kernel
theorem dX6_found_160 : decode cX6_found 160 = .ok (.iconst 1, 1) := by decide +kernel
theorem dX6_found_161 : decode cX6_found 161 = .ok (.goto 4, 3) := by decide +kernel
theorem dX6_found_164 : decode cX6_found 164 = .ok (.iconst 0, 1) := by decide +kernel
theorem dX6_found_165 : decode cX6_found 165 = .ok (.ireturn, 1) := by decide +kernel
theorem dX6_change_0 : decode cX6_change 0 = .ok (.aload_n 0, 1) := by decide +kernel
theorem dX6_change_1 : decode cX6_change 1 = .ok (.bipush 10, 2) := by decide +kernel
theorem dX6_change_3 : decode cX6_change 3 = .ok (.invokevirtual 60, 3) := by decide +kernel
theorem dX6_change_6 : decode cX6_change 6 = .ok (.tableswitch 95 0 8 #[50, 55, 60, 65, 70, 75, 80, 85, 90], 50) := by decide +kernel
theorem dX6_change_56 : decode cX6_change 56 = .ok (.aload_n 0, 1) := by decide +kernel
theorem dX6_change_57 : decode cX6_change 57 = .ok (.invokevirtual 123, 3) := by decide +kernel
theorem dX6_change_60 : decode cX6_change 60 = .ok (.ireturn, 1) := by decide +kernel
theorem dX6_change_61 : decode cX6_change 61 = .ok (.aload_n 0, 1) := by decide +kernel
theorem dX6_change_62 : decode cX6_change 62 = .ok (.invokevirtual 126, 3) := by decide +kernel
theorem dX6_change_65 : decode cX6_change 65 = .ok (.ireturn, 1) := by decide +kernel
theorem dX6_change_66 : decode cX6_change 66 = .ok (.aload_n 0, 1) := by decide +kernel
theorem dX6_change_67 : decode cX6_change 67 = .ok (.invokevirtual 128, 3) := by decide +kernel
theorem dX6_change_70 : decode cX6_change 70 = .ok (.ireturn, 1) := by decide +kernel
theorem dX6_change_71 : decode cX6_change 71 = .ok (.aload_n 0, 1) := by decide +kernel
theorem dX6_change_72 : decode cX6_change 72 = .ok (.invokevirtual 132, 3) := by decide +kernel
theorem dX6_change_75 : decode cX6_change 75 = .ok (.ireturn, 1) := by decide +kernel
theorem dX6_change_76 : decode cX6_change 76 = .ok (.aload_n 0, 1) := by decide +kernel
theorem dX6_change_77 : decode cX6_change 77 = .ok (.invokevirtual 136, 3) := by decide +kernel
theorem dX6_change_80 : decode cX6_change 80 = .ok (.ireturn, 1) := by decide +kernel
theorem dX6_change_81 : decode cX6_change 81 = .ok (.aload_n 0, 1) := by decide +kernel
theorem dX6_change_82 : decode cX6_change 82 = .ok (.invokevirtual 134, 3) := by decide +kernel
theorem dX6_change_85 : decode cX6_change 85 = .ok (.ireturn, 1) := by decide +kernel
theorem dX6_change_86 : decode cX6_change 86 = .ok (.aload_n 0, 1) := by decide +kernel
theorem dX6_change_87 : decode cX6_change 87 = .ok (.invokevirtual 130, 3) := by decide +kernel
theorem dX6_change_90 : decode cX6_change 90 = .ok (.ireturn, 1) := by decide +kernel
theorem dX6_change_91 : decode cX6_change 91 = .ok (.aload_n 0, 1) := by decide +kernel
theorem dX6_change_92 : decode cX6_change 92 = .ok (.invokevirtual 140, 3) := by decide +kernel
theorem dX6_change_95 : decode cX6_change 95 = .ok (.ireturn, 1) := by decide +kernel
theorem dX6_change_96 : decode cX6_change 96 = .ok (.aload_n 0, 1) := by decide +kernel
theorem dX6_change_97 : decode cX6_change 97 = .ok (.invokevirtual 138, 3) := by decide +kernel
theorem dX6_change_100 : decode cX6_change 100 = .ok (.ireturn, 1) := by decide +kernel
theorem dX6_change_101 : decode cX6_change 101 = .ok (.aload_n 0, 1) := by decide +kernel
theorem dX6_change_102 : decode cX6_change 102 = .ok (.invokevirtual 142, 3) := by decide +kernel
theorem dX6_change_105 : decode cX6_change 105 = .ok (.ireturn, 1) := by decide +kernel
theorem dX6_bucket_0 : decode cX6_bucket 0 = .ok (.iload_n 0, 1) := by decide +kernel
theorem dX6_bucket_1 : decode cX6_bucket 1 = .ok (.i2l, 1) := by decide +kernel
theorem dX6_bucket_2 : decode cX6_bucket 2 = .ok (.ldc2_w 144, 3) := by decide +kernel
theorem dX6_bucket_5 : decode cX6_bucket 5 = .ok (.lmul, 1) := by decide +kernel
theorem dX6_bucket_6 : decode cX6_bucket 6 = .ok (.iload_n 1, 1) := by decide +kernel
theorem dX6_bucket_7 : decode cX6_bucket 7 = .ok (.i2l, 1) := by decide +kernel
theorem dX6_bucket_8 : decode cX6_bucket 8 = .ok (.ldc2_w 146, 3) := by decide +kernel
theorem dX6_bucket_11 : decode cX6_bucket 11 = .ok (.lmul, 1) := by decide +kernel
theorem dX6_bucket_12 : decode cX6_bucket 12 = .ok (.ladd, 1) := by decide +kernel
theorem dX6_bucket_13 : decode cX6_bucket 13 = .ok (.ldc2_w 148, 3) := by decide +kernel
theorem dX6_bucket_16 : decode cX6_bucket 16 = .ok (.ladd, 1) := by decide +kernel
theorem dX6_bucket_17 : decode cX6_bucket 17 = .ok (.ldc2_w 150, 3) := by decide +kernel
theorem dX6_bucket_20 : decode cX6_bucket 20 = .ok (.lrem, 1) := by decide +kernel
theorem dX6_bucket_21 : decode cX6_bucket 21 = .ok (.lstore_n 2, 1) := by decide +kernel
theorem dX6_bucket_22 : decode cX6_bucket 22 = .ok (.lload_n 2, 1) := by decide +kernel
theorem dX6_bucket_23 : decode cX6_bucket 23 = .ok (.lload_n 2, 1) := by decide +kernel
theorem dX6_bucket_24 : decode cX6_bucket 24 = .ok (.lmul, 1) := by decide +kernel
theorem dX6_bucket_25 : decode cX6_bucket 25 = .ok (.iload_n 0, 1) := by decide +kernel
theorem dX6_bucket_26 : decode cX6_bucket 26 = .ok (.i2l, 1) := by decide +kernel
theorem dX6_bucket_27 : decode cX6_bucket 27 = .ok (.ladd, 1) := by decide +kernel
theorem dX6_bucket_28 : decode cX6_bucket 28 = .ok (.ldc2_w 152, 3) := by decide +kernel
theorem dX6_bucket_31 : decode cX6_bucket 31 = .ok (.iload_n 1, 1) := by decide +kernel
theorem dX6_bucket_32 : decode cX6_bucket 32 = .ok (.i2l, 1) := by decide +kernel
theorem dX6_bucket_33 : decode cX6_bucket 33 = .ok (.lmul, 1) := by decide +kernel
theorem dX6_bucket_34 : decode cX6_bucket 34 = .ok (.ladd, 1) := by decide +kernel
theorem dX6_bucket_35 : decode cX6_bucket 35 = .ok (.ldc2_w 150, 3) := by decide +kernel
theorem dX6_bucket_38 : decode cX6_bucket 38 = .ok (.lrem, 1) := by decide +kernel
theorem dX6_bucket_39 : decode cX6_bucket 39 = .ok (.ldc2_w 154, 3) := by decide +kernel
theorem dX6_bucket_42 : decode cX6_bucket 42 = .ok (.lrem, 1) := by decide +kernel
theorem dX6_bucket_43 : decode cX6_bucket 43 = .ok (.l2i, 1) := by decide +kernel
theorem dX6_bucket_44 : decode cX6_bucket 44 = .ok (.ireturn, 1) := by decide +kernel
theorem dX6_arm_0 : decode cX6_arm 0 = .ok (.aload_n 0, 1) := by decide +kernel
theorem dX6_arm_1 : decode cX6_arm 1 = .ok (.getfield 31, 3) := by decide +kernel
theorem dX6_arm_4 : decode cX6_arm 4 = .ok (.astore_n 3, 1) := by decide +kernel
theorem dX6_arm_5 : decode cX6_arm 5 = .ok (.aload_n 3, 1) := by decide +kernel
theorem dX6_arm_6 : decode cX6_arm 6 = .ok (.arraylength, 1) := by decide +kernel
theorem dX6_arm_7 : decode cX6_arm 7 = .ok (.istore 4, 2) := by decide +kernel
theorem dX6_arm_9 : decode cX6_arm 9 = .ok (.iconst 0, 1) := by decide +kernel
theorem dX6_arm_10 : decode cX6_arm 10 = .ok (.istore 5, 2) := by decide +kernel
theorem dX6_arm_12 : decode cX6_arm 12 = .ok (.iload 5, 2) := by decide +kernel
theorem dX6_arm_14 : decode cX6_arm 14 = .ok (.iload 4, 2) := by decide +kernel
theorem dX6_arm_16 : decode cX6_arm 16 = .ok (.if_icmp .ge 34, 3) := by decide +kernel
theorem dX6_arm_19 : decode cX6_arm 19 = .ok (.aload_n 3, 1) := by decide +kernel
theorem dX6_arm_20 : decode cX6_arm 20 = .ok (.iload 5, 2) := by decide +kernel
theorem dX6_arm_22 : decode cX6_arm 22 = .ok (.aaload, 1) := by decide +kernel
theorem dX6_arm_23 : decode cX6_arm 23 = .ok (.astore 6, 2) := by decide +kernel
theorem dX6_arm_25 : decode cX6_arm 25 = .ok (.aload 6, 2) := by decide +kernel
theorem dX6_arm_27 : decode cX6_arm 27 = .ok (.iconst 0, 1) := by decide +kernel
theorem dX6_arm_28 : decode cX6_arm 28 = .ok (.iaload, 1) := by decide +kernel
theorem dX6_arm_29 : decode cX6_arm 29 = .ok (.iload_n 1, 1) := by decide +kernel
theorem dX6_arm_30 : decode cX6_arm 30 = .ok (.if_icmp .ne 14, 3) := by decide +kernel
theorem dX6_arm_33 : decode cX6_arm 33 = .ok (.aload 6, 2) := by decide +kernel
theorem dX6_arm_35 : decode cX6_arm 35 = .ok (.iconst 1, 1) := by decide +kernel
theorem dX6_arm_36 : decode cX6_arm 36 = .ok (.iaload, 1) := by decide +kernel
theorem dX6_arm_37 : decode cX6_arm 37 = .ok (.iload_n 2, 1) := by decide +kernel
theorem dX6_arm_38 : decode cX6_arm 38 = .ok (.if_icmp .ne 6, 3) := by decide +kernel
theorem dX6_arm_41 : decode cX6_arm 41 = .ok (.aload 6, 2) := by decide +kernel
theorem dX6_arm_43 : decode cX6_arm 43 = .ok (.areturn, 1) := by decide +kernel
theorem dX6_arm_44 : decode cX6_arm 44 = .ok (.iinc 5 1, 3) := by decide +kernel
theorem dX6_arm_47 : decode cX6_arm 47 = .ok (.goto (-35), 3) := by decide +kernel
theorem dX6_arm_50 : decode cX6_arm 50 = .ok (.iconst 0, 1) := by decide +kernel
theorem dX6_arm_51 : decode cX6_arm 51 = .ok (.newarray .int, 2) := by decide +kernel
theorem dX6_arm_53 : decode cX6_arm 53 = .ok (.areturn, 1) := by decide +kernel
theorem dX6_holds_0 : decode cX6_holds 0 = .ok (.iconst 0, 1) := by decide +kernel
theorem dX6_holds_1 : decode cX6_holds 1 = .ok (.istore 4, 2) := by decide +kernel
theorem dX6_holds_3 : decode cX6_holds 3 = .ok (.iload 4, 2) := by decide +kernel
theorem dX6_holds_5 : decode cX6_holds 5 = .ok (.aload_n 0, 1) := by decide +kernel
theorem dX6_holds_6 : decode cX6_holds 6 = .ok (.getfield 28, 3) := by decide +kernel
theorem dX6_holds_9 : decode cX6_holds 9 = .ok (.iload_n 1, 1) := by decide +kernel
theorem dX6_holds_10 : decode cX6_holds 10 = .ok (.aaload, 1) := by decide +kernel
theorem dX6_holds_11 : decode cX6_holds 11 = .ok (.arraylength, 1) := by decide +kernel
theorem dX6_holds_12 : decode cX6_holds 12 = .ok (.if_icmp .ge 81, 3) := by decide +kernel
theorem dX6_holds_15 : decode cX6_holds 15 = .ok (.aload_n 0, 1) := by decide +kernel
theorem dX6_holds_16 : decode cX6_holds 16 = .ok (.getfield 28, 3) := by decide +kernel
theorem dX6_holds_19 : decode cX6_holds 19 = .ok (.iload_n 1, 1) := by decide +kernel
theorem dX6_holds_20 : decode cX6_holds 20 = .ok (.aaload, 1) := by decide +kernel
theorem dX6_holds_21 : decode cX6_holds 21 = .ok (.iload 4, 2) := by decide +kernel
theorem dX6_holds_23 : decode cX6_holds 23 = .ok (.aaload, 1) := by decide +kernel
theorem dX6_holds_24 : decode cX6_holds 24 = .ok (.astore 5, 2) := by decide +kernel
theorem dX6_holds_26 : decode cX6_holds 26 = .ok (.aload 5, 2) := by decide +kernel
theorem dX6_holds_28 : decode cX6_holds 28 = .ok (.iconst 0, 1) := by decide +kernel
theorem dX6_holds_29 : decode cX6_holds 29 = .ok (.iaload, 1) := by decide +kernel
theorem dX6_holds_30 : decode cX6_holds 30 = .ok (.ifCond .ne 7, 3) := by decide +kernel
theorem dX6_holds_33 : decode cX6_holds 33 = .ok (.iload_n 2, 1) := by decide +kernel
theorem dX6_holds_34 : decode cX6_holds 34 = .ok (.goto 4, 3) := by decide +kernel
theorem dX6_holds_37 : decode cX6_holds 37 = .ok (.iload_n 3, 1) := by decide +kernel
theorem dX6_holds_38 : decode cX6_holds 38 = .ok (.aload 5, 2) := by decide +kernel
theorem dX6_holds_40 : decode cX6_holds 40 = .ok (.iconst 2, 1) := by decide +kernel
theorem dX6_holds_41 : decode cX6_holds 41 = .ok (.iaload, 1) := by decide +kernel
theorem dX6_holds_42 : decode cX6_holds 42 = .ok (.isub, 1) := by decide +kernel
theorem dX6_holds_43 : decode cX6_holds 43 = .ok (.istore 6, 2) := by decide +kernel
theorem dX6_holds_45 : decode cX6_holds 45 = .ok (.aload 5, 2) := by decide +kernel
theorem dX6_holds_47 : decode cX6_holds 47 = .ok (.iconst 1, 1) := by decide +kernel
theorem dX6_holds_48 : decode cX6_holds 48 = .ok (.iaload, 1) := by decide +kernel
theorem dX6_holds_49 : decode cX6_holds 49 = .ok (.iconst 1, 1) := by decide +kernel
theorem dX6_holds_50 : decode cX6_holds 50 = .ok (.if_icmp .ne 8, 3) := by decide +kernel
theorem dX6_holds_53 : decode cX6_holds 53 = .ok (.iload 6, 2) := by decide +kernel
theorem dX6_holds_55 : decode cX6_holds 55 = .ok (.ifCond .lt 29, 3) := by decide +kernel
theorem dX6_holds_58 : decode cX6_holds 58 = .ok (.aload 5, 2) := by decide +kernel
theorem dX6_holds_60 : decode cX6_holds 60 = .ok (.iconst 1, 1) := by decide +kernel
theorem dX6_holds_61 : decode cX6_holds 61 = .ok (.iaload, 1) := by decide +kernel
theorem dX6_holds_62 : decode cX6_holds 62 = .ok (.iconst 2, 1) := by decide +kernel
theorem dX6_holds_63 : decode cX6_holds 63 = .ok (.if_icmp .ne 8, 3) := by decide +kernel
theorem dX6_holds_66 : decode cX6_holds 66 = .ok (.iload 6, 2) := by decide +kernel
theorem dX6_holds_68 : decode cX6_holds 68 = .ok (.ifCond .eq 16, 3) := by decide +kernel
theorem dX6_holds_71 : decode cX6_holds 71 = .ok (.aload 5, 2) := by decide +kernel
theorem dX6_holds_73 : decode cX6_holds 73 = .ok (.iconst 1, 1) := by decide +kernel
theorem dX6_holds_74 : decode cX6_holds 74 = .ok (.iaload, 1) := by decide +kernel
theorem dX6_holds_75 : decode cX6_holds 75 = .ok (.iconst 3, 1) := by decide +kernel
theorem dX6_holds_76 : decode cX6_holds 76 = .ok (.if_icmp .ne 11, 3) := by decide +kernel
theorem dX6_holds_79 : decode cX6_holds 79 = .ok (.iload 6, 2) := by decide +kernel
theorem dX6_holds_81 : decode cX6_holds 81 = .ok (.ifCond .le 6, 3) := by decide +kernel
theorem dX6_holds_84 : decode cX6_holds 84 = .ok (.iload 4, 2) := by decide +kernel
theorem dX6_holds_86 : decode cX6_holds 86 = .ok (.ireturn, 1) := by decide +kernel
theorem dX6_holds_87 : decode cX6_holds 87 = .ok (.iinc 4 1, 3) := by decide +kernel
theorem dX6_holds_90 : decode cX6_holds 90 = .ok (.goto (-87), 3) := by decide +kernel
theorem dX6_holds_93 : decode cX6_holds 93 = .ok (.iconst (-1), 1) := by decide +kernel
theorem dX6_holds_94 : decode cX6_holds 94 = .ok (.ireturn, 1) := by decide +kernel
theorem dX6_because_0 : decode cX6_because 0 = .ok (.aload_n 0, 1) := by decide +kernel
theorem dX6_because_1 : decode cX6_because 1 = .ok (.iload_n 1, 1) := by decide +kernel
theorem dX6_because_2 : decode cX6_because 2 = .ok (.putfield 156, 3) := by decide +kernel
theorem dX6_because_5 : decode cX6_because 5 = .ok (.iload_n 2, 1) := by decide +kernel
theorem dX6_because_6 : decode cX6_because 6 = .ok (.ireturn, 1) := by decide +kernel
theorem dX6_gets_0 : decode cX6_gets 0 = .ok (.aload_n 0, 1) := by decide +kernel
theorem dX6_gets_1 : decode cX6_gets 1 = .ok (.getfield 18, 3) := by decide +kernel
theorem dX6_gets_4 : decode cX6_gets 4 = .ok (.iload_n 1, 1) := by decide +kernel
theorem dX6_gets_5 : decode cX6_gets 5 = .ok (.aaload, 1) := by decide +kernel
theorem dX6_gets_6 : decode cX6_gets 6 = .ok (.astore 6, 2) := by decide +kernel
theorem dX6_gets_8 : decode cX6_gets 8 = .ok (.aload 6, 2) := by decide +kernel
theorem dX6_gets_10 : decode cX6_gets 10 = .ok (.iconst 3, 1) := by decide +kernel
theorem dX6_gets_11 : decode cX6_gets 11 = .ok (.iaload, 1) := by decide +kernel
theorem dX6_gets_12 : decode cX6_gets 12 = .ok (.ifCond .ne 10, 3) := by decide +kernel
theorem dX6_gets_15 : decode cX6_gets 15 = .ok (.aload_n 0, 1) := by decide +kernel
theorem dX6_gets_16 : decode cX6_gets 16 = .ok (.iconst 0, 1) := by decide +kernel
theorem dX6_gets_17 : decode cX6_gets 17 = .ok (.iconst 0, 1) := by decide +kernel
theorem dX6_gets_18 : decode cX6_gets 18 = .ok (.invokevirtual 159, 3) := by decide +kernel
theorem dX6_gets_21 : decode cX6_gets 21 = .ok (.ireturn, 1) := by decide +kernel
theorem dX6_gets_22 : decode cX6_gets 22 = .ok (.aload 6, 2) := by decide +kernel
theorem dX6_gets_24 : decode cX6_gets 24 = .ok (.bipush 10, 2) := by decide +kernel
theorem dX6_gets_26 : decode cX6_gets 26 = .ok (.iaload, 1) := by decide +kernel
theorem dX6_gets_27 : decode cX6_gets 27 = .ok (.ifCond .lt 41, 3) := by decide +kernel
theorem dX6_gets_30 : decode cX6_gets 30 = .ok (.aload_n 0, 1) := by decide +kernel
theorem dX6_gets_31 : decode cX6_gets 31 = .ok (.aload 6, 2) := by decide +kernel
theorem dX6_gets_33 : decode cX6_gets 33 = .ok (.bipush 10, 2) := by decide +kernel
theorem dX6_gets_35 : decode cX6_gets 35 = .ok (.iaload, 1) := by decide +kernel
theorem dX6_gets_36 : decode cX6_gets 36 = .ok (.iload_n 2, 1) := by decide +kernel
theorem dX6_gets_37 : decode cX6_gets 37 = .ok (.iload_n 3, 1) := by decide +kernel
theorem dX6_gets_38 : decode cX6_gets 38 = .ok (.iload 4, 2) := by decide +kernel
theorem dX6_gets_40 : decode cX6_gets 40 = .ok (.aload_n 0, 1) := by decide +kernel
theorem dX6_gets_41 : decode cX6_gets 41 = .ok (.aload 6, 2) := by decide +kernel
theorem dX6_gets_43 : decode cX6_gets 43 = .ok (.bipush 10, 2) := by decide +kernel
theorem dX6_gets_45 : decode cX6_gets 45 = .ok (.iaload, 1) := by decide +kernel
theorem dX6_gets_46 : decode cX6_gets 46 = .ok (.iconst 0, 1) := by decide +kernel
theorem dX6_gets_47 : decode cX6_gets 47 = .ok (.invokevirtual 79, 3) := by decide +kernel
theorem dX6_gets_50 : decode cX6_gets 50 = .ok (.invokevirtual 162, 3) := by decide +kernel
theorem dX6_gets_53 : decode cX6_gets 53 = .ok (.aload 6, 2) := by decide +kernel
theorem dX6_gets_55 : decode cX6_gets 55 = .ok (.bipush 11, 2) := by decide +kernel
theorem dX6_gets_57 : decode cX6_gets 57 = .ok (.iaload, 1) := by decide +kernel
theorem dX6_gets_58 : decode cX6_gets 58 = .ok (.if_icmp .eq 10, 3) := by decide +kernel
theorem dX6_gets_61 : decode cX6_gets 61 = .ok (.aload_n 0, 1) := by decide +kernel
theorem dX6_gets_62 : decode cX6_gets 62 = .ok (.iconst 1, 1) := by decide +kernel
theorem dX6_gets_63 : decode cX6_gets 63 = .ok (.iconst 0, 1) := by decide +kernel
theorem dX6_gets_64 : decode cX6_gets 64 = .ok (.invokevirtual 159, 3) := by decide +kernel
theorem dX6_gets_67 : decode cX6_gets 67 = .ok (.ireturn, 1) := by decide +kernel
theorem dX6_gets_68 : decode cX6_gets 68 = .ok (.aload_n 0, 1) := by decide +kernel
theorem dX6_gets_69 : decode cX6_gets 69 = .ok (.iload_n 1, 1) := by decide +kernel
theorem dX6_gets_70 : decode cX6_gets 70 = .ok (.iload_n 2, 1) := by decide +kernel
theorem dX6_gets_71 : decode cX6_gets 71 = .ok (.invokevirtual 165, 3) := by decide +kernel
theorem dX6_gets_74 : decode cX6_gets 74 = .ok (.astore 7, 2) := by decide +kernel
theorem dX6_gets_76 : decode cX6_gets 76 = .ok (.aload 6, 2) := by decide +kernel
theorem dX6_gets_78 : decode cX6_gets 78 = .ok (.iconst 2, 1) := by decide +kernel
theorem dX6_gets_79 : decode cX6_gets 79 = .ok (.iaload, 1) := by decide +kernel
theorem dX6_gets_80 : decode cX6_gets 80 = .ok (.iconst 1, 1) := by decide +kernel
theorem dX6_gets_81 : decode cX6_gets 81 = .ok (.if_icmp .ne 19, 3) := by decide +kernel
theorem dX6_gets_84 : decode cX6_gets 84 = .ok (.aload 7, 2) := by decide +kernel
theorem dX6_gets_86 : decode cX6_gets 86 = .ok (.arraylength, 1) := by decide +kernel
theorem dX6_gets_87 : decode cX6_gets 87 = .ok (.ifCond .le 13, 3) := by decide +kernel
theorem dX6_gets_90 : decode cX6_gets 90 = .ok (.aload_n 0, 1) := by decide +kernel
theorem dX6_gets_91 : decode cX6_gets 91 = .ok (.iconst 2, 1) := by decide +kernel
theorem dX6_gets_92 : decode cX6_gets 92 = .ok (.aload 7, 2) := by decide +kernel
theorem dX6_gets_94 : decode cX6_gets 94 = .ok (.iconst 2, 1) := by decide +kernel
theorem dX6_gets_95 : decode cX6_gets 95 = .ok (.iaload, 1) := by decide +kernel
theorem dX6_gets_96 : decode cX6_gets 96 = .ok (.invokevirtual 159, 3) := by decide +kernel
theorem dX6_gets_99 : decode cX6_gets 99 = .ok (.ireturn, 1) := by decide +kernel
theorem dX6_gets_100 : decode cX6_gets 100 = .ok (.aload_n 0, 1) := by decide +kernel
theorem dX6_gets_101 : decode cX6_gets 101 = .ok (.iload_n 1, 1) := by decide +kernel
theorem dX6_gets_102 : decode cX6_gets 102 = .ok (.iload_n 3, 1) := by decide +kernel
theorem dX6_gets_103 : decode cX6_gets 103 = .ok (.iload 4, 2) := by decide +kernel
theorem dX6_gets_105 : decode cX6_gets 105 = .ok (.invokevirtual 169, 3) := by decide +kernel
theorem dX6_gets_108 : decode cX6_gets 108 = .ok (.istore 8, 2) := by decide +kernel
theorem dX6_gets_110 : decode cX6_gets 110 = .ok (.iload 8, 2) := by decide +kernel
theorem dX6_gets_112 : decode cX6_gets 112 = .ok (.ifCond .lt 34, 3) := by decide +kernel
theorem dX6_gets_115 : decode cX6_gets 115 = .ok (.aload_n 0, 1) := by decide +kernel
theorem dX6_gets_116 : decode cX6_gets 116 = .ok (.getfield 28, 3) := by decide +kernel
theorem dX6_gets_119 : decode cX6_gets 119 = .ok (.iload_n 1, 1) := by decide +kernel
theorem dX6_gets_120 : decode cX6_gets 120 = .ok (.aaload, 1) := by decide +kernel
theorem dX6_gets_121 : decode cX6_gets 121 = .ok (.iload 8, 2) := by decide +kernel
theorem dX6_gets_123 : decode cX6_gets 123 = .ok (.aaload, 1) := by decide +kernel
theorem dX6_gets_124 : decode cX6_gets 124 = .ok (.iconst 3, 1) := by decide +kernel
theorem dX6_gets_125 : decode cX6_gets 125 = .ok (.iaload, 1) := by decide +kernel
theorem dX6_gets_126 : decode cX6_gets 126 = .ok (.ifCond .lt 20, 3) := by decide +kernel
theorem dX6_gets_129 : decode cX6_gets 129 = .ok (.aload_n 0, 1) := by decide +kernel
theorem dX6_gets_130 : decode cX6_gets 130 = .ok (.iconst 3, 1) := by decide +kernel
theorem dX6_gets_131 : decode cX6_gets 131 = .ok (.aload_n 0, 1) := by decide +kernel
theorem dX6_gets_132 : decode cX6_gets 132 = .ok (.getfield 28, 3) := by decide +kernel
theorem dX6_gets_135 : decode cX6_gets 135 = .ok (.iload_n 1, 1) := by decide +kernel
theorem dX6_gets_136 : decode cX6_gets 136 = .ok (.aaload, 1) := by decide +kernel
theorem dX6_gets_137 : decode cX6_gets 137 = .ok (.iload 8, 2) := by decide +kernel
theorem dX6_gets_139 : decode cX6_gets 139 = .ok (.aaload, 1) := by decide +kernel
theorem dX6_gets_140 : decode cX6_gets 140 = .ok (.iconst 3, 1) := by decide +kernel
theorem dX6_gets_141 : decode cX6_gets 141 = .ok (.iaload, 1) := by decide +kernel
theorem dX6_gets_142 : decode cX6_gets 142 = .ok (.invokevirtual 159, 3) := by decide +kernel
theorem dX6_gets_145 : decode cX6_gets 145 = .ok (.ireturn, 1) := by decide +kernel
theorem dX6_gets_146 : decode cX6_gets 146 = .ok (.sipush 999, 3) := by decide +kernel
theorem dX6_gets_149 : decode cX6_gets 149 = .ok (.iload_n 2, 1) := by decide +kernel
theorem dX6_gets_150 : decode cX6_gets 150 = .ok (.invokestatic 172, 3) := by decide +kernel
theorem dX6_gets_153 : decode cX6_gets 153 = .ok (.aload_n 0, 1) := by decide +kernel
theorem dX6_gets_154 : decode cX6_gets 154 = .ok (.getfield 114, 3) := by decide +kernel
theorem dX6_gets_157 : decode cX6_gets 157 = .ok (.if_icmp .ge 10, 3) := by decide +kernel
theorem dX6_gets_160 : decode cX6_gets 160 = .ok (.aload_n 0, 1) := by decide +kernel
theorem dX6_gets_161 : decode cX6_gets 161 = .ok (.iconst 4, 1) := by decide +kernel
theorem dX6_gets_162 : decode cX6_gets 162 = .ok (.iconst 0, 1) := by decide +kernel
theorem dX6_gets_163 : decode cX6_gets 163 = .ok (.invokevirtual 159, 3) := by decide +kernel
theorem dX6_gets_166 : decode cX6_gets 166 = .ok (.ireturn, 1) := by decide +kernel
theorem dX6_gets_167 : decode cX6_gets 167 = .ok (.sipush 500, 3) := by decide +kernel
theorem dX6_gets_170 : decode cX6_gets 170 = .ok (.iconst 0, 1) := by decide +kernel
theorem dX6_gets_171 : decode cX6_gets 171 = .ok (.aload 6, 2) := by decide +kernel
theorem dX6_gets_173 : decode cX6_gets 173 = .ok (.bipush 7, 2) := by decide +kernel
theorem dX6_gets_175 : decode cX6_gets 175 = .ok (.iaload, 1) := by decide +kernel
theorem dX6_gets_176 : decode cX6_gets 176 = .ok (.invokestatic 175, 3) := by decide +kernel
theorem dX6_gets_179 : decode cX6_gets 179 = .ok (.iadd, 1) := by decide +kernel
theorem dX6_gets_180 : decode cX6_gets 180 = .ok (.iload_n 2, 1) := by decide +kernel
theorem dX6_gets_181 : decode cX6_gets 181 = .ok (.invokestatic 172, 3) := by decide +kernel
theorem dX6_gets_184 : decode cX6_gets 184 = .ok (.istore 9, 2) := by decide +kernel
theorem dX6_gets_186 : decode cX6_gets 186 = .ok (.aload 6, 2) := by decide +kernel
theorem dX6_gets_188 : decode cX6_gets 188 = .ok (.bipush 7, 2) := by decide +kernel
theorem dX6_gets_190 : decode cX6_gets 190 = .ok (.iaload, 1) := by decide +kernel
theorem dX6_gets_191 : decode cX6_gets 191 = .ok (.ifCond .lt 30, 3) := by decide +kernel
theorem dX6_gets_194 : decode cX6_gets 194 = .ok (.iload 9, 2) := by decide +kernel
theorem dX6_gets_196 : decode cX6_gets 196 = .ok (.aload 6, 2) := by decide +kernel
theorem dX6_gets_198 : decode cX6_gets 198 = .ok (.bipush 8, 2) := by decide +kernel
theorem dX6_gets_200 : decode cX6_gets 200 = .ok (.iaload, 1) := by decide +kernel
theorem dX6_gets_201 : decode cX6_gets 201 = .ok (.if_icmp .lt 13, 3) := by decide +kernel
theorem dX6_gets_204 : decode cX6_gets 204 = .ok (.iload 9, 2) := by decide +kernel
theorem dX6_gets_206 : decode cX6_gets 206 = .ok (.aload 6, 2) := by decide +kernel
theorem dX6_gets_208 : decode cX6_gets 208 = .ok (.bipush 9, 2) := by decide +kernel
theorem dX6_gets_210 : decode cX6_gets 210 = .ok (.iaload, 1) := by decide +kernel
theorem dX6_gets_211 : decode cX6_gets 211 = .ok (.if_icmp .lt 10, 3) := by decide +kernel
theorem dX6_gets_214 : decode cX6_gets 214 = .ok (.aload_n 0, 1) := by decide +kernel
theorem dX6_gets_215 : decode cX6_gets 215 = .ok (.iconst 5, 1) := by decide +kernel
theorem dX6_gets_216 : decode cX6_gets 216 = .ok (.iconst 0, 1) := by decide +kernel
theorem dX6_gets_217 : decode cX6_gets 217 = .ok (.invokevirtual 159, 3) := by decide +kernel
theorem dX6_gets_220 : decode cX6_gets 220 = .ok (.ireturn, 1) := by decide +kernel
theorem dX6_gets_221 : decode cX6_gets 221 = .ok (.aload 6, 2) := by decide +kernel
theorem dX6_gets_223 : decode cX6_gets 223 = .ok (.iconst 0, 1) := by decide +kernel
theorem dX6_gets_224 : decode cX6_gets 224 = .ok (.iaload, 1) := by decide +kernel
theorem dX6_gets_225 : decode cX6_gets 225 = .ok (.iconst 1, 1) := by decide +kernel
theorem dX6_gets_226 : decode cX6_gets 226 = .ok (.iadd, 1) := by decide +kernel
theorem dX6_gets_227 : decode cX6_gets 227 = .ok (.iload_n 2, 1) := by decide +kernel
theorem dX6_gets_228 : decode cX6_gets 228 = .ok (.invokestatic 172, 3) := by decide +kernel
theorem dX6_gets_231 : decode cX6_gets 231 = .ok (.iload 5, 2) := by decide +kernel
theorem dX6_gets_233 : decode cX6_gets 233 = .ok (.if_icmp .lt 11, 3) := by decide +kernel
theorem dX6_gets_236 : decode cX6_gets 236 = .ok (.aload_n 0, 1) := by decide +kernel
theorem dX6_gets_237 : decode cX6_gets 237 = .ok (.bipush 6, 2) := by decide +kernel
theorem dX6_gets_239 : decode cX6_gets 239 = .ok (.iconst 0, 1) := by decide +kernel
theorem dX6_gets_240 : decode cX6_gets 240 = .ok (.invokevirtual 159, 3) := by decide +kernel
theorem dX6_gets_243 : decode cX6_gets 243 = .ok (.ireturn, 1) := by decide +kernel
theorem dX6_gets_244 : decode cX6_gets 244 = .ok (.iload 8, 2) := by decide +kernel
theorem dX6_gets_246 : decode cX6_gets 246 = .ok (.ifCond .ge 21, 3) := by decide +kernel
theorem dX6_gets_249 : decode cX6_gets 249 = .ok (.aload_n 0, 1) := by decide +kernel
theorem dX6_gets_250 : decode cX6_gets 250 = .ok (.getfield 28, 3) := by decide +kernel
theorem dX6_gets_253 : decode cX6_gets 253 = .ok (.iload_n 1, 1) := by decide +kernel
theorem dX6_gets_254 : decode cX6_gets 254 = .ok (.aaload, 1) := by decide +kernel
theorem dX6_gets_255 : decode cX6_gets 255 = .ok (.arraylength, 1) := by decide +kernel
theorem dX6_gets_256 : decode cX6_gets 256 = .ok (.ifCond .le 11, 3) := by decide +kernel
theorem dX6_gets_259 : decode cX6_gets 259 = .ok (.aload_n 0, 1) := by decide +kernel
theorem dX6_gets_260 : decode cX6_gets 260 = .ok (.bipush 7, 2) := by decide +kernel
theorem dX6_gets_262 : decode cX6_gets 262 = .ok (.iconst 0, 1) := by decide +kernel
theorem dX6_gets_263 : decode cX6_gets 263 = .ok (.invokevirtual 159, 3) := by decide +kernel
theorem dX6_gets_266 : decode cX6_gets 266 = .ok (.ireturn, 1) := by decide +kernel
theorem dX6_gets_267 : decode cX6_gets 267 = .ok (.aload 6, 2) := by decide +kernel
theorem dX6_gets_269 : decode cX6_gets 269 = .ok (.iconst 0, 1) := by decide +kernel
theorem dX6_gets_270 : decode cX6_gets 270 = .ok (.iaload, 1) := by decide +kernel
theorem dX6_gets_271 : decode cX6_gets 271 = .ok (.iload_n 2, 1) := by decide +kernel
theorem dX6_gets_272 : decode cX6_gets 272 = .ok (.invokestatic 172, 3) := by decide +kernel
theorem dX6_gets_275 : decode cX6_gets 275 = .ok (.istore 10, 2) := by decide +kernel
theorem dX6_gets_277 : decode cX6_gets 277 = .ok (.iconst 0, 1) := by decide +kernel
theorem dX6_gets_278 : decode cX6_gets 278 = .ok (.istore 11, 2) := by decide +kernel
theorem dX6_gets_280 : decode cX6_gets 280 = .ok (.iload 11, 2) := by decide +kernel
theorem dX6_gets_282 : decode cX6_gets 282 = .ok (.iconst 4, 1) := by decide +kernel
theorem dX6_gets_283 : decode cX6_gets 283 = .ok (.if_icmp .ge 46, 3) := by decide +kernel
theorem dX6_gets_286 : decode cX6_gets 286 = .ok (.iload 10, 2) := by decide +kernel
theorem dX6_gets_288 : decode cX6_gets 288 = .ok (.aload_n 0, 1) := by decide +kernel
theorem dX6_gets_289 : decode cX6_gets 289 = .ok (.getfield 23, 3) := by decide +kernel
theorem dX6_gets_292 : decode cX6_gets 292 = .ok (.iload_n 1, 1) := by decide +kernel
theorem dX6_gets_293 : decode cX6_gets 293 = .ok (.aaload, 1) := by decide +kernel
theorem dX6_gets_294 : decode cX6_gets 294 = .ok (.iload 11, 2) := by decide +kernel
theorem dX6_gets_296 : decode cX6_gets 296 = .ok (.iaload, 1) := by decide +kernel
theorem dX6_gets_297 : decode cX6_gets 297 = .ok (.if_icmp .ge 12, 3) := by decide +kernel
theorem dX6_gets_300 : decode cX6_gets 300 = .ok (.aload_n 0, 1) := by decide +kernel
theorem dX6_gets_301 : decode cX6_gets 301 = .ok (.bipush 8, 2) := by decide +kernel
theorem dX6_gets_303 : decode cX6_gets 303 = .ok (.iload 11, 2) := by decide +kernel
theorem dX6_gets_305 : decode cX6_gets 305 = .ok (.invokevirtual 159, 3) := by decide +kernel
theorem dX6_gets_308 : decode cX6_gets 308 = .ok (.ireturn, 1) := by decide +kernel
theorem dX6_gets_309 : decode cX6_gets 309 = .ok (.iload 10, 2) := by decide +kernel
theorem dX6_gets_311 : decode cX6_gets 311 = .ok (.aload_n 0, 1) := by decide +kernel
theorem dX6_gets_312 : decode cX6_gets 312 = .ok (.getfield 23, 3) := by decide +kernel
theorem dX6_gets_315 : decode cX6_gets 315 = .ok (.iload_n 1, 1) := by decide +kernel
theorem dX6_gets_316 : decode cX6_gets 316 = .ok (.aaload, 1) := by decide +kernel
theorem dX6_gets_317 : decode cX6_gets 317 = .ok (.iload 11, 2) := by decide +kernel
theorem dX6_gets_319 : decode cX6_gets 319 = .ok (.iaload, 1) := by decide +kernel
theorem dX6_gets_320 : decode cX6_gets 320 = .ok (.isub, 1) := by decide +kernel
theorem dX6_gets_321 : decode cX6_gets 321 = .ok (.istore 10, 2) := by decide +kernel
theorem dX6_gets_323 : decode cX6_gets 323 = .ok (.iinc 11 1, 3) := by decide +kernel
theorem dX6_gets_326 : decode cX6_gets 326 = .ok (.goto (-46), 3) := by decide +kernel
theorem dX6_gets_329 : decode cX6_gets 329 = .ok (.aload_n 0, 1) := by decide +kernel
theorem dX6_gets_330 : decode cX6_gets 330 = .ok (.bipush 9, 2) := by decide +kernel
theorem dX6_gets_332 : decode cX6_gets 332 = .ok (.iconst (-1), 1) := by decide +kernel
theorem dX6_gets_333 : decode cX6_gets 333 = .ok (.invokevirtual 159, 3) := by decide +kernel
theorem dX6_gets_336 : decode cX6_gets 336 = .ok (.ireturn, 1) := by decide +kernel
theorem dX6_gets__0 : decode cX6_gets_ 0 = .ok (.aload_n 0, 1) := by decide +kernel
theorem dX6_gets__1 : decode cX6_gets_ 1 = .ok (.iload_n 1, 1) := by decide +kernel
theorem dX6_gets__2 : decode cX6_gets_ 2 = .ok (.iload_n 2, 1) := by decide +kernel
theorem dX6_gets__3 : decode cX6_gets_ 3 = .ok (.iload_n 3, 1) := by decide +kernel
theorem dX6_gets__4 : decode cX6_gets_ 4 = .ok (.iload 4, 2) := by decide +kernel
theorem dX6_gets__6 : decode cX6_gets_ 6 = .ok (.aload_n 0, 1) := by decide +kernel
theorem dX6_gets__7 : decode cX6_gets_ 7 = .ok (.iload_n 1, 1) := by decide +kernel
theorem dX6_gets__8 : decode cX6_gets_ 8 = .ok (.iconst 0, 1) := by decide +kernel
theorem dX6_gets__9 : decode cX6_gets_ 9 = .ok (.invokevirtual 79, 3) := by decide +kernel
theorem dX6_gets__12 : decode cX6_gets_ 12 = .ok (.invokevirtual 162, 3) := by decide +kernel
theorem dX6_gets__15 : decode cX6_gets_ 15 = .ok (.ireturn, 1) := by decide +kernel
theorem dX6_ask_0 : decode cX6_ask 0 = .ok (.aload_n 0, 1) := by decide +kernel
theorem dX6_ask_1 : decode cX6_ask 1 = .ok (.aload_n 0, 1) := by decide +kernel
theorem dX6_ask_2 : decode cX6_ask 2 = .ok (.getfield 57, 3) := by decide +kernel
theorem dX6_ask_5 : decode cX6_ask 5 = .ok (.invokevirtual 60, 3) := by decide +kernel
theorem dX6_ask_8 : decode cX6_ask 8 = .ok (.istore_n 1, 1) := by decide +kernel
theorem dX6_ask_9 : decode cX6_ask 9 = .ok (.aload_n 0, 1) := by decide +kernel
theorem dX6_ask_10 : decode cX6_ask 10 = .ok (.bipush 30, 2) := by decide +kernel
theorem dX6_ask_12 : decode cX6_ask 12 = .ok (.invokevirtual 60, 3) := by decide +kernel
theorem dX6_ask_15 : decode cX6_ask 15 = .ok (.istore_n 2, 1) := by decide +kernel
theorem dX6_ask_16 : decode cX6_ask 16 = .ok (.aload_n 0, 1) := by decide +kernel
theorem dX6_ask_17 : decode cX6_ask 17 = .ok (.bipush 10, 2) := by decide +kernel
theorem dX6_ask_19 : decode cX6_ask 19 = .ok (.invokevirtual 60, 3) := by decide +kernel
theorem dX6_ask_22 : decode cX6_ask 22 = .ok (.istore_n 3, 1) := by decide +kernel
theorem dX6_ask_23 : decode cX6_ask 23 = .ok (.aload_n 0, 1) := by decide +kernel
theorem dX6_ask_24 : decode cX6_ask 24 = .ok (.bipush 10, 2) := by decide +kernel
theorem dX6_ask_26 : decode cX6_ask 26 = .ok (.invokevirtual 60, 3) := by decide +kernel
theorem dX6_ask_29 : decode cX6_ask 29 = .ok (.istore 4, 2) := by decide +kernel
theorem dX6_ask_31 : decode cX6_ask 31 = .ok (.aload_n 0, 1) := by decide +kernel
theorem dX6_ask_32 : decode cX6_ask 32 = .ok (.iload_n 1, 1) := by decide +kernel
theorem dX6_ask_33 : decode cX6_ask 33 = .ok (.iload_n 2, 1) := by decide +kernel
theorem dX6_ask_34 : decode cX6_ask 34 = .ok (.iload_n 3, 1) := by decide +kernel
theorem dX6_ask_35 : decode cX6_ask 35 = .ok (.iload 4, 2) := by decide +kernel
theorem dX6_ask_37 : decode cX6_ask 37 = .ok (.invokevirtual 178, 3) := by decide +kernel
theorem dX6_ask_40 : decode cX6_ask 40 = .ok (.istore 5, 2) := by decide +kernel
theorem dX6_ask_42 : decode cX6_ask 42 = .ok (.aload_n 0, 1) := by decide +kernel
theorem dX6_ask_43 : decode cX6_ask 43 = .ok (.getfield 156, 3) := by decide +kernel
theorem dX6_ask_46 : decode cX6_ask 46 = .ok (.istore 6, 2) := by decide +kernel
theorem dX6_ask_48 : decode cX6_ask 48 = .ok (.aload_n 0, 1) := by decide +kernel
theorem dX6_ask_49 : decode cX6_ask 49 = .ok (.getfield 10, 3) := by decide +kernel
theorem dX6_ask_52 : decode cX6_ask 52 = .ok (.iload_n 1, 1) := by decide +kernel
theorem dX6_ask_53 : decode cX6_ask 53 = .ok (.iload_n 2, 1) := by decide +kernel
theorem dX6_ask_54 : decode cX6_ask 54 = .ok (.iload_n 3, 1) := by decide +kernel
theorem dX6_ask_55 : decode cX6_ask 55 = .ok (.iload 4, 2) := by decide +kernel
theorem dX6_ask_57 : decode cX6_ask 57 = .ok (.invokevirtual 180, 3) := by decide +kernel
theorem dX6_ask_60 : decode cX6_ask 60 = .ok (.iload 6, 2) := by decide +kernel
theorem dX6_ask_62 : decode cX6_ask 62 = .ok (.if_icmp .ne 43, 3) := by decide +kernel
theorem dX6_ask_65 : decode cX6_ask 65 = .ok (.aload_n 0, 1) := by decide +kernel
theorem dX6_ask_66 : decode cX6_ask 66 = .ok (.getfield 10, 3) := by decide +kernel
theorem dX6_ask_69 : decode cX6_ask 69 = .ok (.iload_n 1, 1) := by decide +kernel
theorem dX6_ask_70 : decode cX6_ask 70 = .ok (.iload_n 2, 1) := by decide +kernel
theorem dX6_ask_71 : decode cX6_ask 71 = .ok (.iload_n 3, 1) := by decide +kernel
theorem dX6_ask_72 : decode cX6_ask 72 = .ok (.iload 4, 2) := by decide +kernel
theorem dX6_ask_74 : decode cX6_ask 74 = .ok (.invokevirtual 183, 3) := by decide +kernel
theorem dX6_ask_77 : decode cX6_ask 77 = .ok (.iload 5, 2) := by decide +kernel
theorem dX6_ask_79 : decode cX6_ask 79 = .ok (.if_icmp .ne 26, 3) := by decide +kernel
theorem dX6_ask_82 : decode cX6_ask 82 = .ok (.aload_n 0, 1) := by decide +kernel
theorem dX6_ask_83 : decode cX6_ask 83 = .ok (.getfield 10, 3) := by decide +kernel
theorem dX6_ask_86 : decode cX6_ask 86 = .ok (.iload_n 1, 1) := by decide +kernel
theorem dX6_ask_87 : decode cX6_ask 87 = .ok (.iload_n 2, 1) := by decide +kernel
theorem dX6_ask_88 : decode cX6_ask 88 = .ok (.iload_n 3, 1) := by decide +kernel
theorem dX6_ask_89 : decode cX6_ask 89 = .ok (.iload 4, 2) := by decide +kernel
theorem dX6_ask_91 : decode cX6_ask 91 = .ok (.invokevirtual 184, 3) := by decide +kernel
theorem dX6_ask_94 : decode cX6_ask 94 = .ok (.aload_n 0, 1) := by decide +kernel
theorem dX6_ask_95 : decode cX6_ask 95 = .ok (.iload_n 1, 1) := by decide +kernel
theorem dX6_ask_96 : decode cX6_ask 96 = .ok (.iload_n 3, 1) := by decide +kernel
theorem dX6_ask_97 : decode cX6_ask 97 = .ok (.iload 4, 2) := by decide +kernel
theorem dX6_ask_99 : decode cX6_ask 99 = .ok (.invokevirtual 169, 3) := by decide +kernel
theorem dX6_ask_102 : decode cX6_ask 102 = .ok (.if_icmp .eq 5, 3) := by decide +kernel
theorem dX6_ask_105 : decode cX6_ask 105 = .ok (.iconst 0, 1) := by decide +kernel
theorem dX6_ask_106 : decode cX6_ask 106 = .ok (.ireturn, 1) := by decide +kernel
theorem dX6_ask_107 : decode cX6_ask 107 = .ok (.iconst 5, 1) := by decide +kernel
theorem dX6_ask_108 : decode cX6_ask 108 = .ok (.newarray .int, 2) := by decide +kernel
theorem dX6_ask_110 : decode cX6_ask 110 = .ok (.dup, 1) := by decide +kernel
theorem dX6_ask_111 : decode cX6_ask 111 = .ok (.iconst 0, 1) := by decide +kernel
theorem dX6_ask_112 : decode cX6_ask 112 = .ok (.iload_n 1, 1) := by decide +kernel
theorem dX6_ask_113 : decode cX6_ask 113 = .ok (.iastore, 1) := by decide +kernel
theorem dX6_ask_114 : decode cX6_ask 114 = .ok (.dup, 1) := by decide +kernel
theorem dX6_ask_115 : decode cX6_ask 115 = .ok (.iconst 1, 1) := by decide +kernel
theorem dX6_ask_116 : decode cX6_ask 116 = .ok (.iload_n 2, 1) := by decide +kernel
theorem dX6_ask_117 : decode cX6_ask 117 = .ok (.iastore, 1) := by decide +kernel
theorem dX6_ask_118 : decode cX6_ask 118 = .ok (.dup, 1) := by decide +kernel
theorem dX6_ask_119 : decode cX6_ask 119 = .ok (.iconst 2, 1) := by decide +kernel
theorem dX6_ask_120 : decode cX6_ask 120 = .ok (.iload 5, 2) := by decide +kernel
theorem dX6_ask_122 : decode cX6_ask 122 = .ok (.iastore, 1) := by decide +kernel
theorem dX6_ask_123 : decode cX6_ask 123 = .ok (.dup, 1) := by decide +kernel
theorem dX6_ask_124 : decode cX6_ask 124 = .ok (.iconst 3, 1) := by decide +kernel
theorem dX6_ask_125 : decode cX6_ask 125 = .ok (.iconst 0, 1) := by decide +kernel
theorem dX6_ask_126 : decode cX6_ask 126 = .ok (.iastore, 1) := by decide +kernel
theorem dX6_ask_127 : decode cX6_ask 127 = .ok (.dup, 1) := by decide +kernel
theorem dX6_ask_128 : decode cX6_ask 128 = .ok (.iconst 4, 1) := by decide +kernel
theorem dX6_ask_129 : decode cX6_ask 129 = .ok (.iconst 0, 1) := by decide +kernel
theorem dX6_ask_130 : decode cX6_ask 130 = .ok (.iastore, 1) := by decide +kernel
theorem dX6_ask_131 : decode cX6_ask 131 = .ok (.astore 7, 2) := by decide +kernel
theorem dX6_ask_133 : decode cX6_ask 133 = .ok (.iload 6, 2) := by decide +kernel
theorem dX6_ask_135 : decode cX6_ask 135 = .ok (.bipush 8, 2) := by decide +kernel
theorem dX6_ask_137 : decode cX6_ask 137 = .ok (.if_icmp .ne 36, 3) := by decide +kernel
theorem dX6_ask_140 : decode cX6_ask 140 = .ok (.aload_n 0, 1) := by decide +kernel
theorem dX6_ask_141 : decode cX6_ask 141 = .ok (.getfield 31, 3) := by decide +kernel
theorem dX6_ask_144 : decode cX6_ask 144 = .ok (.arraylength, 1) := by decide +kernel
theorem dX6_ask_145 : decode cX6_ask 145 = .ok (.bipush 100, 2) := by decide +kernel
theorem dX6_ask_147 : decode cX6_ask 147 = .ok (.if_icmp .ge 26, 3) := by decide +kernel
theorem dX6_ask_150 : decode cX6_ask 150 = .ok (.aload_n 0, 1) := by decide +kernel
theorem dX6_ask_151 : decode cX6_ask 151 = .ok (.iload_n 1, 1) := by decide +kernel
theorem dX6_ask_152 : decode cX6_ask 152 = .ok (.iload_n 2, 1) := by decide +kernel
theorem dX6_ask_153 : decode cX6_ask 153 = .ok (.invokevirtual 165, 3) := by decide +kernel
theorem dX6_ask_156 : decode cX6_ask 156 = .ok (.arraylength, 1) := by decide +kernel
theorem dX6_ask_157 : decode cX6_ask 157 = .ok (.ifCond .ne 16, 3) := by decide +kernel
theorem dX6_ask_160 : decode cX6_ask 160 = .ok (.aload_n 0, 1) := by decide +kernel
theorem dX6_ask_161 : decode cX6_ask 161 = .ok (.aload_n 0, 1) := by decide +kernel
theorem dX6_ask_162 : decode cX6_ask 162 = .ok (.getfield 31, 3) := by decide +kernel
theorem dX6_ask_165 : decode cX6_ask 165 = .ok (.aload 7, 2) := by decide +kernel
theorem dX6_ask_167 : decode cX6_ask 167 = .ok (.invokestatic 106, 3) := by decide +kernel
theorem dX6_ask_170 : decode cX6_ask 170 = .ok (.putfield 31, 3) := by decide +kernel
theorem dX6_ask_173 : decode cX6_ask 173 = .ok (.aload_n 0, 1) := by decide +kernel
theorem dX6_ask_174 : decode cX6_ask 174 = .ok (.getfield 10, 3) := by decide +kernel
theorem dX6_ask_177 : decode cX6_ask 177 = .ok (.iload_n 1, 1) := by decide +kernel
theorem dX6_ask_178 : decode cX6_ask 178 = .ok (.iload_n 2, 1) := by decide +kernel
theorem dX6_ask_179 : decode cX6_ask 179 = .ok (.iload_n 3, 1) := by decide +kernel
theorem dX6_ask_180 : decode cX6_ask 180 = .ok (.iload 4, 2) := by decide +kernel
theorem dX6_ask_182 : decode cX6_ask 182 = .ok (.invokevirtual 186, 3) := by decide +kernel
theorem dX6_ask_185 : decode cX6_ask 185 = .ok (.iload 5, 2) := by decide +kernel
theorem dX6_ask_187 : decode cX6_ask 187 = .ok (.if_icmp .ne 22, 3) := by decide +kernel
theorem dX6_ask_190 : decode cX6_ask 190 = .ok (.aload_n 0, 1) := by decide +kernel
theorem dX6_ask_191 : decode cX6_ask 191 = .ok (.getfield 10, 3) := by decide +kernel
theorem dX6_ask_194 : decode cX6_ask 194 = .ok (.invokevirtual 189, 3) := by decide +kernel
theorem dX6_ask_197 : decode cX6_ask 197 = .ok (.aload_n 0, 1) := by decide +kernel
theorem dX6_ask_198 : decode cX6_ask 198 = .ok (.getfield 31, 3) := by decide +kernel
theorem dX6_ask_201 : decode cX6_ask 201 = .ok (.arraylength, 1) := by decide +kernel
theorem dX6_ask_202 : decode cX6_ask 202 = .ok (.if_icmp .ne 7, 3) := by decide +kernel
theorem dX6_ask_205 : decode cX6_ask 205 = .ok (.iconst 1, 1) := by decide +kernel
theorem dX6_ask_206 : decode cX6_ask 206 = .ok (.goto 4, 3) := by decide +kernel
theorem dX6_ask_209 : decode cX6_ask 209 = .ok (.iconst 0, 1) := by decide +kernel
theorem dX6_ask_210 : decode cX6_ask 210 = .ok (.ireturn, 1) := by decide +kernel
theorem dX6_act_0 : decode cX6_act 0 = .ok (.aload_n 0, 1) := by decide +kernel
theorem dX6_act_1 : decode cX6_act 1 = .ok (.bipush 30, 2) := by decide +kernel
theorem dX6_act_3 : decode cX6_act 3 = .ok (.invokevirtual 60, 3) := by decide +kernel
theorem dX6_act_6 : decode cX6_act 6 = .ok (.istore_n 1, 1) := by decide +kernel
theorem dX6_act_7 : decode cX6_act 7 = .ok (.aload_n 0, 1) := by decide +kernel
theorem dX6_act_8 : decode cX6_act 8 = .ok (.bipush 101, 2) := by decide +kernel
theorem dX6_act_10 : decode cX6_act 10 = .ok (.invokevirtual 60, 3) := by decide +kernel
theorem dX6_act_13 : decode cX6_act 13 = .ok (.istore_n 2, 1) := by decide +kernel
theorem dX6_act_14 : decode cX6_act 14 = .ok (.iconst 0, 1) := by decide +kernel
theorem dX6_act_15 : decode cX6_act 15 = .ok (.istore_n 3, 1) := by decide +kernel
theorem dX6_act_16 : decode cX6_act 16 = .ok (.aload_n 0, 1) := by decide +kernel
theorem dX6_act_17 : decode cX6_act 17 = .ok (.getfield 31, 3) := by decide +kernel
theorem dX6_act_20 : decode cX6_act 20 = .ok (.astore 4, 2) := by decide +kernel
theorem dX6_act_22 : decode cX6_act 22 = .ok (.aload 4, 2) := by decide +kernel
theorem dX6_act_24 : decode cX6_act 24 = .ok (.arraylength, 1) := by decide +kernel
theorem dX6_act_25 : decode cX6_act 25 = .ok (.istore 5, 2) := by decide +kernel
theorem dX6_act_27 : decode cX6_act 27 = .ok (.iconst 0, 1) := by decide +kernel
theorem dX6_act_28 : decode cX6_act 28 = .ok (.istore 6, 2) := by decide +kernel
theorem dX6_act_30 : decode cX6_act 30 = .ok (.iload 6, 2) := by decide +kernel
theorem dX6_act_32 : decode cX6_act 32 = .ok (.iload 5, 2) := by decide +kernel
theorem dX6_act_34 : decode cX6_act 34 = .ok (.if_icmp .ge 43, 3) := by decide +kernel
theorem dX6_act_37 : decode cX6_act 37 = .ok (.aload 4, 2) := by decide +kernel
theorem dX6_act_39 : decode cX6_act 39 = .ok (.iload 6, 2) := by decide +kernel
theorem dX6_act_41 : decode cX6_act 41 = .ok (.aaload, 1) := by decide +kernel
theorem dX6_act_42 : decode cX6_act 42 = .ok (.astore 7, 2) := by decide +kernel
theorem dX6_act_44 : decode cX6_act 44 = .ok (.aload 7, 2) := by decide +kernel
theorem dX6_act_46 : decode cX6_act 46 = .ok (.iconst 1, 1) := by decide +kernel
theorem dX6_act_47 : decode cX6_act 47 = .ok (.iaload, 1) := by decide +kernel
theorem dX6_act_48 : decode cX6_act 48 = .ok (.iload_n 1, 1) := by decide +kernel
theorem dX6_act_49 : decode cX6_act 49 = .ok (.if_icmp .eq 6, 3) := by decide +kernel
theorem dX6_act_52 : decode cX6_act 52 = .ok (.goto 19, 3) := by decide +kernel
theorem dX6_act_55 : decode cX6_act 55 = .ok (.aload 7, 2) := by decide +kernel
theorem dX6_act_57 : decode cX6_act 57 = .ok (.iconst 3, 1) := by decide +kernel
theorem dX6_act_58 : decode cX6_act 58 = .ok (.dup2, 1) := by decide +kernel
theorem dX6_act_59 : decode cX6_act 59 = .ok (.iaload, 1) := by decide +kernel
theorem dX6_act_60 : decode cX6_act 60 = .ok (.iload_n 2, 1) := by decide +kernel
theorem dX6_act_61 : decode cX6_act 61 = .ok (.iadd, 1) := by decide +kernel
theorem dX6_act_62 : decode cX6_act 62 = .ok (.iastore, 1) := by decide +kernel
theorem dX6_act_63 : decode cX6_act 63 = .ok (.aload 7, 2) := by decide +kernel
theorem dX6_act_65 : decode cX6_act 65 = .ok (.iconst 4, 1) := by decide +kernel
theorem dX6_act_66 : decode cX6_act 66 = .ok (.iconst 1, 1) := by decide +kernel
theorem dX6_act_67 : decode cX6_act 67 = .ok (.iastore, 1) := by decide +kernel
theorem dX6_act_68 : decode cX6_act 68 = .ok (.iinc 3 1, 3) := by decide +kernel
theorem dX6_act_71 : decode cX6_act 71 = .ok (.iinc 6 1, 3) := by decide +kernel
theorem dX6_act_74 : decode cX6_act 74 = .ok (.goto (-44), 3) := by decide +kernel
theorem dX6_act_77 : decode cX6_act 77 = .ok (.aload_n 0, 1) := by decide +kernel
theorem dX6_act_78 : decode cX6_act 78 = .ok (.getfield 10, 3) := by decide +kernel
theorem dX6_act_81 : decode cX6_act 81 = .ok (.iload_n 1, 1) := by decide +kernel
theorem dX6_act_82 : decode cX6_act 82 = .ok (.iload_n 2, 1) := by decide +kernel
theorem dX6_act_83 : decode cX6_act 83 = .ok (.invokevirtual 192, 3) := by decide +kernel
theorem dX6_act_86 : decode cX6_act 86 = .ok (.iload_n 3, 1) := by decide +kernel
theorem dX6_act_87 : decode cX6_act 87 = .ok (.if_icmp .ne 7, 3) := by decide +kernel
theorem dX6_act_90 : decode cX6_act 90 = .ok (.iconst 1, 1) := by decide +kernel
theorem dX6_act_91 : decode cX6_act 91 = .ok (.goto 4, 3) := by decide +kernel
theorem dX6_act_94 : decode cX6_act 94 = .ok (.iconst 0, 1) := by decide +kernel
theorem dX6_act_95 : decode cX6_act 95 = .ok (.ireturn, 1) := by decide +kernel
