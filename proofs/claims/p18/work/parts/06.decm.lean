theorem dX6_init_0 : decode cX6_init 0 = .ok (.aload_n 0, 1) := by decide +kernel
theorem dX6_init_1 : decode cX6_init 1 = .ok (.invokespecial 1, 3) := by decide +kernel
theorem dX6_init_4 : decode cX6_init 4 = .ok (.aload_n 0, 1) := by decide +kernel
theorem dX6_init_5 : decode cX6_init 5 = .ok (.bipush 8, 2) := by decide +kernel
theorem dX6_init_7 : decode cX6_init 7 = .ok (.newarray .int, 2) := by decide +kernel
theorem dX6_init_9 : decode cX6_init 9 = .ok (.putfield 9, 3) := by decide +kernel
theorem dX6_init_12 : decode cX6_init 12 = .ok (.aload_n 0, 1) := by decide +kernel
theorem dX6_init_13 : decode cX6_init 13 = .ok (.bipush 8, 2) := by decide +kernel
theorem dX6_init_15 : decode cX6_init 15 = .ok (.newarray .int, 2) := by decide +kernel
theorem dX6_init_17 : decode cX6_init 17 = .ok (.putfield 13, 3) := by decide +kernel
theorem dX6_init_20 : decode cX6_init 20 = .ok (.aload_n 0, 1) := by decide +kernel
theorem dX6_init_21 : decode cX6_init 21 = .ok (.bipush 32, 2) := by decide +kernel
theorem dX6_init_23 : decode cX6_init 23 = .ok (.newarray .int, 2) := by decide +kernel
theorem dX6_init_25 : decode cX6_init 25 = .ok (.putfield 16, 3) := by decide +kernel
theorem dX6_init_28 : decode cX6_init 28 = .ok (.aload_n 0, 1) := by decide +kernel
theorem dX6_init_29 : decode cX6_init 29 = .ok (.bipush 8, 2) := by decide +kernel
theorem dX6_init_31 : decode cX6_init 31 = .ok (.newarray .int, 2) := by decide +kernel
theorem dX6_init_33 : decode cX6_init 33 = .ok (.putfield 19, 3) := by decide +kernel
theorem dX6_init_36 : decode cX6_init 36 = .ok (.aload_n 0, 1) := by decide +kernel
theorem dX6_init_37 : decode cX6_init 37 = .ok (.bipush 8, 2) := by decide +kernel
theorem dX6_init_39 : decode cX6_init 39 = .ok (.newarray .int, 2) := by decide +kernel
theorem dX6_init_41 : decode cX6_init 41 = .ok (.putfield 22, 3) := by decide +kernel
theorem dX6_init_44 : decode cX6_init 44 = .ok (.aload_n 0, 1) := by decide +kernel
theorem dX6_init_45 : decode cX6_init 45 = .ok (.bipush 8, 2) := by decide +kernel
theorem dX6_init_47 : decode cX6_init 47 = .ok (.newarray .int, 2) := by decide +kernel
theorem dX6_init_49 : decode cX6_init 49 = .ok (.putfield 25, 3) := by decide +kernel
theorem dX6_init_52 : decode cX6_init 52 = .ok (.aload_n 0, 1) := by decide +kernel
theorem dX6_init_53 : decode cX6_init 53 = .ok (.bipush 8, 2) := by decide +kernel
theorem dX6_init_55 : decode cX6_init 55 = .ok (.newarray .boolean, 2) := by decide +kernel
theorem dX6_init_57 : decode cX6_init 57 = .ok (.putfield 28, 3) := by decide +kernel
theorem dX6_init_60 : decode cX6_init 60 = .ok (.aload_n 0, 1) := by decide +kernel
theorem dX6_init_61 : decode cX6_init 61 = .ok (.bipush 8, 2) := by decide +kernel
theorem dX6_init_63 : decode cX6_init 63 = .ok (.newarray .boolean, 2) := by decide +kernel
theorem dX6_init_65 : decode cX6_init 65 = .ok (.putfield 32, 3) := by decide +kernel
theorem dX6_init_68 : decode cX6_init 68 = .ok (.aload_n 0, 1) := by decide +kernel
theorem dX6_init_69 : decode cX6_init 69 = .ok (.bipush 8, 2) := by decide +kernel
theorem dX6_init_71 : decode cX6_init 71 = .ok (.newarray .int, 2) := by decide +kernel
theorem dX6_init_73 : decode cX6_init 73 = .ok (.putfield 35, 3) := by decide +kernel
theorem dX6_init_76 : decode cX6_init 76 = .ok (.aload_n 0, 1) := by decide +kernel
theorem dX6_init_77 : decode cX6_init 77 = .ok (.bipush 8, 2) := by decide +kernel
theorem dX6_init_79 : decode cX6_init 79 = .ok (.newarray .int, 2) := by decide +kernel
theorem dX6_init_81 : decode cX6_init 81 = .ok (.putfield 38, 3) := by decide +kernel
theorem dX6_init_84 : decode cX6_init 84 = .ok (.aload_n 0, 1) := by decide +kernel
theorem dX6_init_85 : decode cX6_init 85 = .ok (.bipush 8, 2) := by decide +kernel
theorem dX6_init_87 : decode cX6_init 87 = .ok (.newarray .int, 2) := by decide +kernel
theorem dX6_init_89 : decode cX6_init 89 = .ok (.putfield 41, 3) := by decide +kernel
theorem dX6_init_92 : decode cX6_init 92 = .ok (.aload_n 0, 1) := by decide +kernel
theorem dX6_init_93 : decode cX6_init 93 = .ok (.bipush 8, 2) := by decide +kernel
theorem dX6_init_95 : decode cX6_init 95 = .ok (.newarray .int, 2) := by decide +kernel
theorem dX6_init_97 : decode cX6_init 97 = .ok (.putfield 44, 3) := by decide +kernel
theorem dX6_init_100 : decode cX6_init 100 = .ok (.aload_n 0, 1) := by decide +kernel
theorem dX6_init_101 : decode cX6_init 101 = .ok (.bipush 8, 2) := by decide +kernel
theorem dX6_init_103 : decode cX6_init 103 = .ok (.newarray .int, 2) := by decide +kernel
theorem dX6_init_105 : decode cX6_init 105 = .ok (.putfield 47, 3) := by decide +kernel
theorem dX6_init_108 : decode cX6_init 108 = .ok (.aload_n 0, 1) := by decide +kernel
theorem dX6_init_109 : decode cX6_init 109 = .ok (.bipush 8, 2) := by decide +kernel
theorem dX6_init_111 : decode cX6_init 111 = .ok (.newarray .int, 2) := by decide +kernel
theorem dX6_init_113 : decode cX6_init 113 = .ok (.putfield 50, 3) := by decide +kernel
theorem dX6_init_116 : decode cX6_init 116 = .ok (.aload_n 0, 1) := by decide +kernel
theorem dX6_init_117 : decode cX6_init 117 = .ok (.bipush 40, 2) := by decide +kernel
theorem dX6_init_119 : decode cX6_init 119 = .ok (.newarray .int, 2) := by decide +kernel
theorem dX6_init_121 : decode cX6_init 121 = .ok (.putfield 53, 3) := by decide +kernel
theorem dX6_init_124 : decode cX6_init 124 = .ok (.aload_n 0, 1) := by decide +kernel
theorem dX6_init_125 : decode cX6_init 125 = .ok (.bipush 40, 2) := by decide +kernel
theorem dX6_init_127 : decode cX6_init 127 = .ok (.newarray .int, 2) := by decide +kernel
theorem dX6_init_129 : decode cX6_init 129 = .ok (.putfield 56, 3) := by decide +kernel
theorem dX6_init_132 : decode cX6_init 132 = .ok (.aload_n 0, 1) := by decide +kernel
theorem dX6_init_133 : decode cX6_init 133 = .ok (.bipush 40, 2) := by decide +kernel
theorem dX6_init_135 : decode cX6_init 135 = .ok (.newarray .int, 2) := by decide +kernel
theorem dX6_init_137 : decode cX6_init 137 = .ok (.putfield 59, 3) := by decide +kernel
theorem dX6_init_140 : decode cX6_init 140 = .ok (.aload_n 0, 1) := by decide +kernel
theorem dX6_init_141 : decode cX6_init 141 = .ok (.bipush 40, 2) := by decide +kernel
theorem dX6_init_143 : decode cX6_init 143 = .ok (.newarray .int, 2) := by decide +kernel
theorem dX6_init_145 : decode cX6_init 145 = .ok (.putfield 62, 3) := by decide +kernel
theorem dX6_init_148 : decode cX6_init 148 = .ok (.aload_n 0, 1) := by decide +kernel
theorem dX6_init_149 : decode cX6_init 149 = .ok (.bipush 100, 2) := by decide +kernel
theorem dX6_init_151 : decode cX6_init 151 = .ok (.newarray .int, 2) := by decide +kernel
theorem dX6_init_153 : decode cX6_init 153 = .ok (.putfield 65, 3) := by decide +kernel
theorem dX6_init_156 : decode cX6_init 156 = .ok (.aload_n 0, 1) := by decide +kernel
theorem dX6_init_157 : decode cX6_init 157 = .ok (.bipush 100, 2) := by decide +kernel
theorem dX6_init_159 : decode cX6_init 159 = .ok (.newarray .int, 2) := by decide +kernel
theorem dX6_init_161 : decode cX6_init 161 = .ok (.putfield 68, 3) := by decide +kernel
theorem dX6_init_164 : decode cX6_init 164 = .ok (.aload_n 0, 1) := by decide +kernel
theorem dX6_init_165 : decode cX6_init 165 = .ok (.bipush 100, 2) := by decide +kernel
theorem dX6_init_167 : decode cX6_init 167 = .ok (.newarray .int, 2) := by decide +kernel
theorem dX6_init_169 : decode cX6_init 169 = .ok (.putfield 71, 3) := by decide +kernel
theorem dX6_init_172 : decode cX6_init 172 = .ok (.aload_n 0, 1) := by decide +kernel
theorem dX6_init_173 : decode cX6_init 173 = .ok (.bipush 100, 2) := by decide +kernel
theorem dX6_init_175 : decode cX6_init 175 = .ok (.newarray .int, 2) := by decide +kernel
theorem dX6_init_177 : decode cX6_init 177 = .ok (.putfield 74, 3) := by decide +kernel
theorem dX6_init_180 : decode cX6_init 180 = .ok (.aload_n 0, 1) := by decide +kernel
theorem dX6_init_181 : decode cX6_init 181 = .ok (.bipush 100, 2) := by decide +kernel
theorem dX6_init_183 : decode cX6_init 183 = .ok (.newarray .boolean, 2) := by decide +kernel
theorem dX6_init_185 : decode cX6_init 185 = .ok (.putfield 77, 3) := by decide +kernel
theorem dX6_init_188 : decode cX6_init 188 = .ok (.return_, 1) := by decide +kernel
theorem dX6_thrown_0 : decode cX6_thrown 0 = .ok (.aload_n 0, 1) := by decide +kernel
theorem dX6_thrown_1 : decode cX6_thrown 1 = .ok (.getfield 80, 3) := by decide +kernel
theorem dX6_thrown_4 : decode cX6_thrown 4 = .ok (.ireturn, 1) := by decide +kernel
theorem dX6_no_0 : decode cX6_no 0 = .ok (.aload_n 0, 1) := by decide +kernel
theorem dX6_no_1 : decode cX6_no 1 = .ok (.iload_n 1, 1) := by decide +kernel
theorem dX6_no_2 : decode cX6_no 2 = .ok (.putfield 80, 3) := by decide +kernel
theorem dX6_no_5 : decode cX6_no 5 = .ok (.iconst 0, 1) := by decide +kernel
theorem dX6_no_6 : decode cX6_no 6 = .ok (.ireturn, 1) := by decide +kernel
theorem dX6_isNot_0 : decode cX6_isNot 0 = .ok (.aload_n 0, 1) := by decide +kernel
theorem dX6_isNot_1 : decode cX6_isNot 1 = .ok (.iload_n 1, 1) := by decide +kernel
theorem dX6_isNot_2 : decode cX6_isNot 2 = .ok (.putfield 80, 3) := by decide +kernel
theorem dX6_isNot_5 : decode cX6_isNot 5 = .ok (.iconst 0, 1) := by decide +kernel
theorem dX6_isNot_6 : decode cX6_isNot 6 = .ok (.ireturn, 1) := by decide +kernel
theorem dX6_ok_0 : decode cX6_ok 0 = .ok (.aload_n 0, 1) := by decide +kernel
theorem dX6_ok_1 : decode cX6_ok 1 = .ok (.iconst 0, 1) := by decide +kernel
theorem dX6_ok_2 : decode cX6_ok 2 = .ok (.putfield 80, 3) := by decide +kernel
theorem dX6_ok_5 : decode cX6_ok 5 = .ok (.iload_n 1, 1) := by decide +kernel
theorem dX6_ok_6 : decode cX6_ok 6 = .ok (.ireturn, 1) := by decide +kernel
theorem dX6_isIn_0 : decode cX6_isIn 0 = .ok (.iload_n 0, 1) := by decide +kernel
theorem dX6_isIn_1 : decode cX6_isIn 1 = .ok (.iload_n 1, 1) := by decide +kernel
theorem dX6_isIn_2 : decode cX6_isIn 2 = .ok (.if_icmp .lt 12, 3) := by decide +kernel
theorem dX6_isIn_5 : decode cX6_isIn 5 = .ok (.iload_n 0, 1) := by decide +kernel
theorem dX6_isIn_6 : decode cX6_isIn 6 = .ok (.iload_n 2, 1) := by decide +kernel
theorem dX6_isIn_7 : decode cX6_isIn 7 = .ok (.if_icmp .gt 7, 3) := by decide +kernel
theorem dX6_isIn_10 : decode cX6_isIn 10 = .ok (.iconst 1, 1) := by decide +kernel
theorem dX6_isIn_11 : decode cX6_isIn 11 = .ok (.goto 4, 3) := by decide +kernel
theorem dX6_isIn_14 : decode cX6_isIn 14 = .ok (.iconst 0, 1) := by decide +kernel
theorem dX6_isIn_15 : decode cX6_isIn 15 = .ok (.ireturn, 1) := by decide +kernel
theorem dX6_isSwitch_0 : decode cX6_isSwitch 0 = .ok (.iload_n 1, 1) := by decide +kernel
theorem dX6_isSwitch_1 : decode cX6_isSwitch 1 = .ok (.iconst 0, 1) := by decide +kernel
theorem dX6_isSwitch_2 : decode cX6_isSwitch 2 = .ok (.aload_n 0, 1) := by decide +kernel
theorem dX6_isSwitch_3 : decode cX6_isSwitch 3 = .ok (.getfield 84, 3) := by decide +kernel
theorem dX6_isSwitch_6 : decode cX6_isSwitch 6 = .ok (.iconst 1, 1) := by decide +kernel
theorem dX6_isSwitch_7 : decode cX6_isSwitch 7 = .ok (.isub, 1) := by decide +kernel
theorem dX6_isSwitch_8 : decode cX6_isSwitch 8 = .ok (.invokestatic 87, 3) := by decide +kernel
theorem dX6_isSwitch_11 : decode cX6_isSwitch 11 = .ok (.ireturn, 1) := by decide +kernel
theorem dX6_isVariant_0 : decode cX6_isVariant 0 = .ok (.aload_n 0, 1) := by decide +kernel
theorem dX6_isVariant_1 : decode cX6_isVariant 1 = .ok (.iload_n 1, 1) := by decide +kernel
theorem dX6_isVariant_2 : decode cX6_isVariant 2 = .ok (.invokevirtual 91, 3) := by decide +kernel
theorem dX6_isVariant_5 : decode cX6_isVariant 5 = .ok (.ifCond .eq 23, 3) := by decide +kernel
theorem dX6_isVariant_8 : decode cX6_isVariant 8 = .ok (.iload_n 2, 1) := by decide +kernel
theorem dX6_isVariant_9 : decode cX6_isVariant 9 = .ok (.iconst 0, 1) := by decide +kernel
theorem dX6_isVariant_10 : decode cX6_isVariant 10 = .ok (.aload_n 0, 1) := by decide +kernel
theorem dX6_isVariant_11 : decode cX6_isVariant 11 = .ok (.getfield 13, 3) := by decide +kernel
theorem dX6_isVariant_14 : decode cX6_isVariant 14 = .ok (.iload_n 1, 1) := by decide +kernel
theorem dX6_isVariant_15 : decode cX6_isVariant 15 = .ok (.iaload, 1) := by decide +kernel
theorem dX6_isVariant_16 : decode cX6_isVariant 16 = .ok (.iconst 1, 1) := by decide +kernel
theorem dX6_isVariant_17 : decode cX6_isVariant 17 = .ok (.isub, 1) := by decide +kernel
theorem dX6_isVariant_18 : decode cX6_isVariant 18 = .ok (.invokestatic 87, 3) := by decide +kernel
theorem dX6_isVariant_21 : decode cX6_isVariant 21 = .ok (.ifCond .eq 7, 3) := by decide +kernel
theorem dX6_isVariant_24 : decode cX6_isVariant 24 = .ok (.iconst 1, 1) := by decide +kernel
theorem dX6_isVariant_25 : decode cX6_isVariant 25 = .ok (.goto 4, 3) := by decide +kernel
theorem dX6_isVariant_28 : decode cX6_isVariant 28 = .ok (.iconst 0, 1) := by decide +kernel
theorem dX6_isVariant_29 : decode cX6_isVariant 29 = .ok (.ireturn, 1) := by decide +kernel
theorem dX6_isUser_0 : decode cX6_isUser 0 = .ok (.iload_n 0, 1) := by decide +kernel
theorem dX6_isUser_1 : decode cX6_isUser 1 = .ok (.iconst 0, 1) := by decide +kernel
theorem dX6_isUser_2 : decode cX6_isUser 2 = .ok (.sipush 9999, 3) := by decide +kernel
theorem dX6_isUser_5 : decode cX6_isUser 5 = .ok (.invokestatic 87, 3) := by decide +kernel
theorem dX6_isUser_8 : decode cX6_isUser 8 = .ok (.ireturn, 1) := by decide +kernel
theorem dX6_add_0 : decode cX6_add 0 = .ok (.aload_n 0, 1) := by decide +kernel
theorem dX6_add_1 : decode cX6_add 1 = .ok (.iconst 0, 1) := by decide +kernel
theorem dX6_add_2 : decode cX6_add 2 = .ok (.putfield 80, 3) := by decide +kernel
theorem dX6_add_5 : decode cX6_add 5 = .ok (.iload_n 1, 1) := by decide +kernel
theorem dX6_add_6 : decode cX6_add 6 = .ok (.iconst 0, 1) := by decide +kernel
theorem dX6_add_7 : decode cX6_add 7 = .ok (.sipush 498, 3) := by decide +kernel
theorem dX6_add_10 : decode cX6_add 10 = .ok (.invokestatic 87, 3) := by decide +kernel
theorem dX6_add_13 : decode cX6_add 13 = .ok (.ifCond .eq 12, 3) := by decide +kernel
theorem dX6_add_16 : decode cX6_add 16 = .ok (.iload_n 2, 1) := by decide +kernel
theorem dX6_add_17 : decode cX6_add 17 = .ok (.iconst 2, 1) := by decide +kernel
theorem dX6_add_18 : decode cX6_add 18 = .ok (.iconst 4, 1) := by decide +kernel
theorem dX6_add_19 : decode cX6_add 19 = .ok (.invokestatic 87, 3) := by decide +kernel
theorem dX6_add_22 : decode cX6_add 22 = .ok (.ifCond .ne 9, 3) := by decide +kernel
theorem dX6_add_25 : decode cX6_add 25 = .ok (.aload_n 0, 1) := by decide +kernel
theorem dX6_add_26 : decode cX6_add 26 = .ok (.iconst 1, 1) := by decide +kernel
theorem dX6_add_27 : decode cX6_add 27 = .ok (.invokevirtual 95, 3) := by decide +kernel
theorem dX6_add_30 : decode cX6_add 30 = .ok (.ireturn, 1) := by decide +kernel
theorem dX6_add_31 : decode cX6_add 31 = .ok (.aload_n 0, 1) := by decide +kernel
theorem dX6_add_32 : decode cX6_add 32 = .ok (.getfield 84, 3) := by decide +kernel
theorem dX6_add_35 : decode cX6_add 35 = .ok (.bipush 8, 2) := by decide +kernel
theorem dX6_add_37 : decode cX6_add 37 = .ok (.if_icmp .ne 9, 3) := by decide +kernel
theorem dX6_add_40 : decode cX6_add 40 = .ok (.aload_n 0, 1) := by decide +kernel
theorem dX6_add_41 : decode cX6_add 41 = .ok (.iconst 2, 1) := by decide +kernel
theorem dX6_add_42 : decode cX6_add 42 = .ok (.invokevirtual 95, 3) := by decide +kernel
theorem dX6_add_45 : decode cX6_add 45 = .ok (.ireturn, 1) := by decide +kernel
theorem dX6_add_46 : decode cX6_add 46 = .ok (.aload_n 0, 1) := by decide +kernel
theorem dX6_add_47 : decode cX6_add 47 = .ok (.getfield 9, 3) := by decide +kernel
theorem dX6_add_50 : decode cX6_add 50 = .ok (.aload_n 0, 1) := by decide +kernel
theorem dX6_add_51 : decode cX6_add 51 = .ok (.getfield 84, 3) := by decide +kernel
theorem dX6_add_54 : decode cX6_add 54 = .ok (.iload_n 1, 1) := by decide +kernel
theorem dX6_add_55 : decode cX6_add 55 = .ok (.iastore, 1) := by decide +kernel
theorem dX6_add_56 : decode cX6_add 56 = .ok (.aload_n 0, 1) := by decide +kernel
theorem dX6_add_57 : decode cX6_add 57 = .ok (.getfield 13, 3) := by decide +kernel
theorem dX6_add_60 : decode cX6_add 60 = .ok (.aload_n 0, 1) := by decide +kernel
theorem dX6_add_61 : decode cX6_add 61 = .ok (.getfield 84, 3) := by decide +kernel
theorem dX6_add_64 : decode cX6_add 64 = .ok (.iload_n 2, 1) := by decide +kernel
theorem dX6_add_65 : decode cX6_add 65 = .ok (.iastore, 1) := by decide +kernel
theorem dX6_add_66 : decode cX6_add 66 = .ok (.aload_n 0, 1) := by decide +kernel
theorem dX6_add_67 : decode cX6_add 67 = .ok (.getfield 16, 3) := by decide +kernel
theorem dX6_add_70 : decode cX6_add 70 = .ok (.aload_n 0, 1) := by decide +kernel
theorem dX6_add_71 : decode cX6_add 71 = .ok (.getfield 84, 3) := by decide +kernel
theorem dX6_add_74 : decode cX6_add 74 = .ok (.iconst 4, 1) := by decide +kernel
theorem dX6_add_75 : decode cX6_add 75 = .ok (.imul, 1) := by decide +kernel
theorem dX6_add_76 : decode cX6_add 76 = .ok (.sipush 1000, 3) := by decide +kernel
theorem dX6_add_79 : decode cX6_add 79 = .ok (.iastore, 1) := by decide +kernel
theorem dX6_add_80 : decode cX6_add 80 = .ok (.aload_n 0, 1) := by decide +kernel
theorem dX6_add_81 : decode cX6_add 81 = .ok (.getfield 19, 3) := by decide +kernel
theorem dX6_add_84 : decode cX6_add 84 = .ok (.aload_n 0, 1) := by decide +kernel
theorem dX6_add_85 : decode cX6_add 85 = .ok (.getfield 84, 3) := by decide +kernel
theorem dX6_add_88 : decode cX6_add 88 = .ok (.sipush 1000, 3) := by decide +kernel
theorem dX6_add_91 : decode cX6_add 91 = .ok (.iastore, 1) := by decide +kernel
theorem dX6_add_92 : decode cX6_add 92 = .ok (.aload_n 0, 1) := by decide +kernel
theorem dX6_add_93 : decode cX6_add 93 = .ok (.getfield 25, 3) := by decide +kernel
theorem dX6_add_96 : decode cX6_add 96 = .ok (.aload_n 0, 1) := by decide +kernel
theorem dX6_add_97 : decode cX6_add 97 = .ok (.getfield 84, 3) := by decide +kernel
theorem dX6_add_100 : decode cX6_add 100 = .ok (.aload_n 0, 1) := by decide +kernel
theorem dX6_add_101 : decode cX6_add 101 = .ok (.getfield 99, 3) := by decide +kernel
theorem dX6_add_104 : decode cX6_add 104 = .ok (.iastore, 1) := by decide +kernel
theorem dX6_add_105 : decode cX6_add 105 = .ok (.aload_n 0, 1) := by decide +kernel
theorem dX6_add_106 : decode cX6_add 106 = .ok (.getfield 28, 3) := by decide +kernel
theorem dX6_add_109 : decode cX6_add 109 = .ok (.aload_n 0, 1) := by decide +kernel
theorem dX6_add_110 : decode cX6_add 110 = .ok (.getfield 84, 3) := by decide +kernel
theorem dX6_add_113 : decode cX6_add 113 = .ok (.iload_n 3, 1) := by decide +kernel
theorem dX6_add_114 : decode cX6_add 114 = .ok (.bastore, 1) := by decide +kernel
theorem dX6_add_115 : decode cX6_add 115 = .ok (.aload_n 0, 1) := by decide +kernel
theorem dX6_add_116 : decode cX6_add 116 = .ok (.getfield 35, 3) := by decide +kernel
theorem dX6_add_119 : decode cX6_add 119 = .ok (.aload_n 0, 1) := by decide +kernel
theorem dX6_add_120 : decode cX6_add 120 = .ok (.getfield 84, 3) := by decide +kernel
theorem dX6_add_123 : decode cX6_add 123 = .ok (.iconst (-1), 1) := by decide +kernel
theorem dX6_add_124 : decode cX6_add 124 = .ok (.iastore, 1) := by decide +kernel
theorem dX6_add_125 : decode cX6_add 125 = .ok (.aload_n 0, 1) := by decide +kernel
theorem dX6_add_126 : decode cX6_add 126 = .ok (.getfield 44, 3) := by decide +kernel
theorem dX6_add_129 : decode cX6_add 129 = .ok (.aload_n 0, 1) := by decide +kernel
theorem dX6_add_130 : decode cX6_add 130 = .ok (.getfield 84, 3) := by decide +kernel
theorem dX6_add_133 : decode cX6_add 133 = .ok (.iconst (-1), 1) := by decide +kernel
theorem dX6_add_134 : decode cX6_add 134 = .ok (.iastore, 1) := by decide +kernel
theorem dX6_add_135 : decode cX6_add 135 = .ok (.aload_n 0, 1) := by decide +kernel
theorem dX6_add_136 : decode cX6_add 136 = .ok (.dup, 1) := by decide +kernel
theorem dX6_add_137 : decode cX6_add 137 = .ok (.getfield 84, 3) := by decide +kernel
theorem dX6_add_140 : decode cX6_add 140 = .ok (.dup_x1, 1) := by decide +kernel
theorem dX6_add_141 : decode cX6_add 141 = .ok (.iconst 1, 1) := by decide +kernel
theorem dX6_add_142 : decode cX6_add 142 = .ok (.iadd, 1) := by decide +kernel
theorem dX6_add_143 : decode cX6_add 143 = .ok (.putfield 84, 3) := by decide +kernel
theorem dX6_add_146 : decode cX6_add 146 = .ok (.ireturn, 1) := by decide +kernel
theorem dX6_weigh_0 : decode cX6_weigh 0 = .ok (.aload_n 0, 1) := by decide +kernel
theorem dX6_weigh_1 : decode cX6_weigh 1 = .ok (.iconst 0, 1) := by decide +kernel
theorem dX6_weigh_2 : decode cX6_weigh 2 = .ok (.putfield 80, 3) := by decide +kernel
theorem dX6_weigh_5 : decode cX6_weigh 5 = .ok (.aload_n 0, 1) := by decide +kernel
theorem dX6_weigh_6 : decode cX6_weigh 6 = .ok (.iload_n 1, 1) := by decide +kernel
theorem dX6_weigh_7 : decode cX6_weigh 7 = .ok (.iload_n 2, 1) := by decide +kernel
theorem dX6_weigh_8 : decode cX6_weigh 8 = .ok (.invokevirtual 102, 3) := by decide +kernel
theorem dX6_weigh_11 : decode cX6_weigh 11 = .ok (.ifCond .ne 9, 3) := by decide +kernel
theorem dX6_weigh_14 : decode cX6_weigh 14 = .ok (.aload_n 0, 1) := by decide +kernel
theorem dX6_weigh_15 : decode cX6_weigh 15 = .ok (.iconst 1, 1) := by decide +kernel
theorem dX6_weigh_16 : decode cX6_weigh 16 = .ok (.invokevirtual 95, 3) := by decide +kernel
theorem dX6_weigh_19 : decode cX6_weigh 19 = .ok (.ireturn, 1) := by decide +kernel
theorem dX6_weigh_20 : decode cX6_weigh 20 = .ok (.iload_n 1, 1) := by decide +kernel
theorem dX6_weigh_21 : decode cX6_weigh 21 = .ok (.iconst 4, 1) := by decide +kernel
theorem dX6_weigh_22 : decode cX6_weigh 22 = .ok (.imul, 1) := by decide +kernel
theorem dX6_weigh_23 : decode cX6_weigh 23 = .ok (.istore 4, 2) := by decide +kernel
theorem dX6_weigh_25 : decode cX6_weigh 25 = .ok (.iload_n 2, 1) := by decide +kernel
theorem dX6_weigh_26 : decode cX6_weigh 26 = .ok (.ifCond .eq 35, 3) := by decide +kernel
theorem dX6_weigh_29 : decode cX6_weigh 29 = .ok (.iload_n 3, 1) := by decide +kernel
theorem dX6_weigh_30 : decode cX6_weigh 30 = .ok (.iconst 0, 1) := by decide +kernel
theorem dX6_weigh_31 : decode cX6_weigh 31 = .ok (.sipush 1000, 3) := by decide +kernel
theorem dX6_weigh_34 : decode cX6_weigh 34 = .ok (.invokestatic 87, 3) := by decide +kernel
theorem dX6_weigh_37 : decode cX6_weigh 37 = .ok (.ifCond .eq 24, 3) := by decide +kernel
theorem dX6_weigh_40 : decode cX6_weigh 40 = .ok (.aload_n 0, 1) := by decide +kernel
theorem dX6_weigh_41 : decode cX6_weigh 41 = .ok (.getfield 16, 3) := by decide +kernel
theorem dX6_weigh_44 : decode cX6_weigh 44 = .ok (.iload 4, 2) := by decide +kernel
theorem dX6_weigh_46 : decode cX6_weigh 46 = .ok (.iaload, 1) := by decide +kernel
theorem dX6_weigh_47 : decode cX6_weigh 47 = .ok (.aload_n 0, 1) := by decide +kernel
theorem dX6_weigh_48 : decode cX6_weigh 48 = .ok (.getfield 16, 3) := by decide +kernel
theorem dX6_weigh_51 : decode cX6_weigh 51 = .ok (.iload 4, 2) := by decide +kernel
theorem dX6_weigh_53 : decode cX6_weigh 53 = .ok (.iload_n 2, 1) := by decide +kernel
theorem dX6_weigh_54 : decode cX6_weigh 54 = .ok (.iadd, 1) := by decide +kernel
theorem dX6_weigh_55 : decode cX6_weigh 55 = .ok (.iaload, 1) := by decide +kernel
theorem dX6_weigh_56 : decode cX6_weigh 56 = .ok (.iadd, 1) := by decide +kernel
theorem dX6_weigh_57 : decode cX6_weigh 57 = .ok (.iload_n 3, 1) := by decide +kernel
theorem dX6_weigh_58 : decode cX6_weigh 58 = .ok (.if_icmp .ge 9, 3) := by decide +kernel
theorem dX6_weigh_61 : decode cX6_weigh 61 = .ok (.aload_n 0, 1) := by decide +kernel
theorem dX6_weigh_62 : decode cX6_weigh 62 = .ok (.iconst 2, 1) := by decide +kernel
theorem dX6_weigh_63 : decode cX6_weigh 63 = .ok (.invokevirtual 95, 3) := by decide +kernel
theorem dX6_weigh_66 : decode cX6_weigh 66 = .ok (.ireturn, 1) := by decide +kernel
theorem dX6_weigh_67 : decode cX6_weigh 67 = .ok (.aload_n 0, 1) := by decide +kernel
theorem dX6_weigh_68 : decode cX6_weigh 68 = .ok (.getfield 16, 3) := by decide +kernel
theorem dX6_weigh_71 : decode cX6_weigh 71 = .ok (.iload 4, 2) := by decide +kernel
theorem dX6_weigh_73 : decode cX6_weigh 73 = .ok (.dup2, 1) := by decide +kernel
theorem dX6_weigh_74 : decode cX6_weigh 74 = .ok (.iaload, 1) := by decide +kernel
theorem dX6_weigh_75 : decode cX6_weigh 75 = .ok (.aload_n 0, 1) := by decide +kernel
theorem dX6_weigh_76 : decode cX6_weigh 76 = .ok (.getfield 16, 3) := by decide +kernel
theorem dX6_weigh_79 : decode cX6_weigh 79 = .ok (.iload 4, 2) := by decide +kernel
theorem dX6_weigh_81 : decode cX6_weigh 81 = .ok (.iload_n 2, 1) := by decide +kernel
theorem dX6_weigh_82 : decode cX6_weigh 82 = .ok (.iadd, 1) := by decide +kernel
theorem dX6_weigh_83 : decode cX6_weigh 83 = .ok (.iaload, 1) := by decide +kernel
theorem dX6_weigh_84 : decode cX6_weigh 84 = .ok (.iload_n 3, 1) := by decide +kernel
theorem dX6_weigh_85 : decode cX6_weigh 85 = .ok (.isub, 1) := by decide +kernel
theorem dX6_weigh_86 : decode cX6_weigh 86 = .ok (.iadd, 1) := by decide +kernel
theorem dX6_weigh_87 : decode cX6_weigh 87 = .ok (.iastore, 1) := by decide +kernel
theorem dX6_weigh_88 : decode cX6_weigh 88 = .ok (.aload_n 0, 1) := by decide +kernel
theorem dX6_weigh_89 : decode cX6_weigh 89 = .ok (.getfield 16, 3) := by decide +kernel
theorem dX6_weigh_92 : decode cX6_weigh 92 = .ok (.iload 4, 2) := by decide +kernel
theorem dX6_weigh_94 : decode cX6_weigh 94 = .ok (.iload_n 2, 1) := by decide +kernel
theorem dX6_weigh_95 : decode cX6_weigh 95 = .ok (.iadd, 1) := by decide +kernel
theorem dX6_weigh_96 : decode cX6_weigh 96 = .ok (.iload_n 3, 1) := by decide +kernel
theorem dX6_weigh_97 : decode cX6_weigh 97 = .ok (.iastore, 1) := by decide +kernel
theorem dX6_weigh_98 : decode cX6_weigh 98 = .ok (.aload_n 0, 1) := by decide +kernel
theorem dX6_weigh_99 : decode cX6_weigh 99 = .ok (.getfield 16, 3) := by decide +kernel
theorem dX6_weigh_102 : decode cX6_weigh 102 = .ok (.iload 4, 2) := by decide +kernel
theorem dX6_weigh_104 : decode cX6_weigh 104 = .ok (.iaload, 1) := by decide +kernel
theorem dX6_weigh_105 : decode cX6_weigh 105 = .ok (.ireturn, 1) := by decide +kernel
theorem dX6_turn_0 : decode cX6_turn 0 = .ok (.aload_n 0, 1) := by decide +kernel
theorem dX6_turn_1 : decode cX6_turn 1 = .ok (.iconst 0, 1) := by decide +kernel
theorem dX6_turn_2 : decode cX6_turn 2 = .ok (.putfield 80, 3) := by decide +kernel
theorem dX6_turn_5 : decode cX6_turn 5 = .ok (.aload_n 0, 1) := by decide +kernel
theorem dX6_turn_6 : decode cX6_turn 6 = .ok (.iload_n 1, 1) := by decide +kernel
theorem dX6_turn_7 : decode cX6_turn 7 = .ok (.invokevirtual 91, 3) := by decide +kernel
theorem dX6_turn_10 : decode cX6_turn 10 = .ok (.ifCond .ne 9, 3) := by decide +kernel
theorem dX6_turn_13 : decode cX6_turn 13 = .ok (.aload_n 0, 1) := by decide +kernel
theorem dX6_turn_14 : decode cX6_turn 14 = .ok (.iconst 1, 1) := by decide +kernel
theorem dX6_turn_15 : decode cX6_turn 15 = .ok (.invokevirtual 106, 3) := by decide +kernel
theorem dX6_turn_18 : decode cX6_turn 18 = .ok (.ireturn, 1) := by decide +kernel
theorem dX6_turn_19 : decode cX6_turn 19 = .ok (.aload_n 0, 1) := by decide +kernel
theorem dX6_turn_20 : decode cX6_turn 20 = .ok (.getfield 32, 3) := by decide +kernel
theorem dX6_turn_23 : decode cX6_turn 23 = .ok (.iload_n 1, 1) := by decide +kernel
theorem dX6_turn_24 : decode cX6_turn 24 = .ok (.baload, 1) := by decide +kernel
theorem dX6_turn_25 : decode cX6_turn 25 = .ok (.istore_n 3, 1) := by decide +kernel
theorem dX6_turn_26 : decode cX6_turn 26 = .ok (.aload_n 0, 1) := by decide +kernel
theorem dX6_turn_27 : decode cX6_turn 27 = .ok (.getfield 32, 3) := by decide +kernel
theorem dX6_turn_30 : decode cX6_turn 30 = .ok (.iload_n 1, 1) := by decide +kernel
theorem dX6_turn_31 : decode cX6_turn 31 = .ok (.iload_n 2, 1) := by decide +kernel
theorem dX6_turn_32 : decode cX6_turn 32 = .ok (.bastore, 1) := by decide +kernel
theorem dX6_turn_33 : decode cX6_turn 33 = .ok (.iload_n 3, 1) := by decide +kernel
theorem dX6_turn_34 : decode cX6_turn 34 = .ok (.ireturn, 1) := by decide +kernel
theorem dX6_farIn_0 : decode cX6_farIn 0 = .ok (.ldc2_w 109, 3) := by decide +kernel
theorem dX6_farIn_3 : decode cX6_farIn 3 = .ok (.aload_n 0, 1) := by decide +kernel
theorem dX6_farIn_4 : decode cX6_farIn 4 = .ok (.getfield 19, 3) := by decide +kernel
theorem dX6_farIn_7 : decode cX6_farIn 7 = .ok (.iload_n 1, 1) := by decide +kernel
theorem dX6_farIn_8 : decode cX6_farIn 8 = .ok (.iaload, 1) := by decide +kernel
theorem dX6_farIn_9 : decode cX6_farIn 9 = .ok (.i2l, 1) := by decide +kernel
theorem dX6_farIn_10 : decode cX6_farIn 10 = .ok (.aload_n 0, 1) := by decide +kernel
theorem dX6_farIn_11 : decode cX6_farIn 11 = .ok (.getfield 22, 3) := by decide +kernel
theorem dX6_farIn_14 : decode cX6_farIn 14 = .ok (.iload_n 1, 1) := by decide +kernel
theorem dX6_farIn_15 : decode cX6_farIn 15 = .ok (.iaload, 1) := by decide +kernel
theorem dX6_farIn_16 : decode cX6_farIn 16 = .ok (.i2l, 1) := by decide +kernel
theorem dX6_farIn_17 : decode cX6_farIn 17 = .ok (.aload_n 0, 1) := by decide +kernel
theorem dX6_farIn_18 : decode cX6_farIn 18 = .ok (.getfield 99, 3) := by decide +kernel
theorem dX6_farIn_21 : decode cX6_farIn 21 = .ok (.iload_n 2, 1) := by decide +kernel
theorem dX6_farIn_22 : decode cX6_farIn 22 = .ok (.iadd, 1) := by decide +kernel
theorem dX6_farIn_23 : decode cX6_farIn 23 = .ok (.aload_n 0, 1) := by decide +kernel
theorem dX6_farIn_24 : decode cX6_farIn 24 = .ok (.getfield 25, 3) := by decide +kernel
theorem dX6_farIn_27 : decode cX6_farIn 27 = .ok (.iload_n 1, 1) := by decide +kernel
theorem dX6_farIn_28 : decode cX6_farIn 28 = .ok (.iaload, 1) := by decide +kernel
theorem dX6_farIn_29 : decode cX6_farIn 29 = .ok (.isub, 1) := by decide +kernel
theorem dX6_farIn_30 : decode cX6_farIn 30 = .ok (.i2l, 1) := by decide +kernel
theorem dX6_farIn_31 : decode cX6_farIn 31 = .ok (.lmul, 1) := by decide +kernel
theorem dX6_farIn_32 : decode cX6_farIn 32 = .ok (.ladd, 1) := by decide +kernel
theorem dX6_farIn_33 : decode cX6_farIn 33 = .ok (.invokestatic 111, 3) := by decide +kernel
theorem dX6_farIn_36 : decode cX6_farIn 36 = .ok (.l2i, 1) := by decide +kernel
theorem dX6_farIn_37 : decode cX6_farIn 37 = .ok (.ireturn, 1) := by decide +kernel
theorem dX6_ramp_0 : decode cX6_ramp 0 = .ok (.aload_n 0, 1) := by decide +kernel
theorem dX6_ramp_1 : decode cX6_ramp 1 = .ok (.iconst 0, 1) := by decide +kernel
theorem dX6_ramp_2 : decode cX6_ramp 2 = .ok (.putfield 80, 3) := by decide +kernel
theorem dX6_ramp_5 : decode cX6_ramp 5 = .ok (.aload_n 0, 1) := by decide +kernel
theorem dX6_ramp_6 : decode cX6_ramp 6 = .ok (.iload_n 1, 1) := by decide +kernel
theorem dX6_ramp_7 : decode cX6_ramp 7 = .ok (.invokevirtual 91, 3) := by decide +kernel
theorem dX6_ramp_10 : decode cX6_ramp 10 = .ok (.ifCond .ne 9, 3) := by decide +kernel
theorem dX6_ramp_13 : decode cX6_ramp 13 = .ok (.aload_n 0, 1) := by decide +kernel
theorem dX6_ramp_14 : decode cX6_ramp 14 = .ok (.iconst 1, 1) := by decide +kernel
theorem dX6_ramp_15 : decode cX6_ramp 15 = .ok (.invokevirtual 95, 3) := by decide +kernel
theorem dX6_ramp_18 : decode cX6_ramp 18 = .ok (.ireturn, 1) := by decide +kernel
theorem dX6_ramp_19 : decode cX6_ramp 19 = .ok (.iload_n 2, 1) := by decide +kernel
theorem dX6_ramp_20 : decode cX6_ramp 20 = .ok (.iconst 0, 1) := by decide +kernel
theorem dX6_ramp_21 : decode cX6_ramp 21 = .ok (.sipush 1000, 3) := by decide +kernel
theorem dX6_ramp_24 : decode cX6_ramp 24 = .ok (.invokestatic 87, 3) := by decide +kernel
theorem dX6_ramp_27 : decode cX6_ramp 27 = .ok (.ifCond .eq 14, 3) := by decide +kernel
theorem dX6_ramp_30 : decode cX6_ramp 30 = .ok (.iload_n 3, 1) := by decide +kernel
theorem dX6_ramp_31 : decode cX6_ramp 31 = .ok (.iconst 0, 1) := by decide +kernel
theorem dX6_ramp_32 : decode cX6_ramp 32 = .ok (.sipush 1000, 3) := by decide +kernel
theorem dX6_ramp_35 : decode cX6_ramp 35 = .ok (.invokestatic 87, 3) := by decide +kernel
theorem dX6_ramp_38 : decode cX6_ramp 38 = .ok (.ifCond .ne 9, 3) := by decide +kernel
theorem dX6_ramp_41 : decode cX6_ramp 41 = .ok (.aload_n 0, 1) := by decide +kernel
theorem dX6_ramp_42 : decode cX6_ramp 42 = .ok (.iconst 2, 1) := by decide +kernel
theorem dX6_ramp_43 : decode cX6_ramp 43 = .ok (.invokevirtual 95, 3) := by decide +kernel
theorem dX6_ramp_46 : decode cX6_ramp 46 = .ok (.ireturn, 1) := by decide +kernel
theorem dX6_ramp_47 : decode cX6_ramp 47 = .ok (.aload_n 0, 1) := by decide +kernel
theorem dX6_ramp_48 : decode cX6_ramp 48 = .ok (.iload_n 1, 1) := by decide +kernel
theorem dX6_ramp_49 : decode cX6_ramp 49 = .ok (.iconst 0, 1) := by decide +kernel
theorem dX6_ramp_50 : decode cX6_ramp 50 = .ok (.invokevirtual 117, 3) := by decide +kernel
theorem dX6_ramp_53 : decode cX6_ramp 53 = .ok (.istore 4, 2) := by decide +kernel
theorem dX6_ramp_55 : decode cX6_ramp 55 = .ok (.aload_n 0, 1) := by decide +kernel
theorem dX6_ramp_56 : decode cX6_ramp 56 = .ok (.getfield 19, 3) := by decide +kernel
theorem dX6_ramp_59 : decode cX6_ramp 59 = .ok (.iload_n 1, 1) := by decide +kernel
theorem dX6_ramp_60 : decode cX6_ramp 60 = .ok (.iload_n 2, 1) := by decide +kernel
theorem dX6_ramp_61 : decode cX6_ramp 61 = .ok (.iastore, 1) := by decide +kernel
theorem dX6_ramp_62 : decode cX6_ramp 62 = .ok (.aload_n 0, 1) := by decide +kernel
theorem dX6_ramp_63 : decode cX6_ramp 63 = .ok (.getfield 22, 3) := by decide +kernel
theorem dX6_ramp_66 : decode cX6_ramp 66 = .ok (.iload_n 1, 1) := by decide +kernel
theorem dX6_ramp_67 : decode cX6_ramp 67 = .ok (.iload_n 3, 1) := by decide +kernel
theorem dX6_ramp_68 : decode cX6_ramp 68 = .ok (.iastore, 1) := by decide +kernel
theorem dX6_ramp_69 : decode cX6_ramp 69 = .ok (.aload_n 0, 1) := by decide +kernel
theorem dX6_ramp_70 : decode cX6_ramp 70 = .ok (.getfield 25, 3) := by decide +kernel
theorem dX6_ramp_73 : decode cX6_ramp 73 = .ok (.iload_n 1, 1) := by decide +kernel
theorem dX6_ramp_74 : decode cX6_ramp 74 = .ok (.aload_n 0, 1) := by decide +kernel
theorem dX6_ramp_75 : decode cX6_ramp 75 = .ok (.getfield 99, 3) := by decide +kernel
theorem dX6_ramp_78 : decode cX6_ramp 78 = .ok (.iastore, 1) := by decide +kernel
theorem dX6_ramp_79 : decode cX6_ramp 79 = .ok (.iload 4, 2) := by decide +kernel
theorem dX6_ramp_81 : decode cX6_ramp 81 = .ok (.ireturn, 1) := by decide +kernel
theorem dX6_place_0 : decode cX6_place 0 = .ok (.aload_n 0, 1) := by decide +kernel
theorem dX6_place_1 : decode cX6_place 1 = .ok (.iconst 0, 1) := by decide +kernel
theorem dX6_place_2 : decode cX6_place 2 = .ok (.putfield 80, 3) := by decide +kernel
theorem dX6_place_5 : decode cX6_place 5 = .ok (.aload_n 0, 1) := by decide +kernel
theorem dX6_place_6 : decode cX6_place 6 = .ok (.iload_n 1, 1) := by decide +kernel
theorem dX6_place_7 : decode cX6_place 7 = .ok (.invokevirtual 91, 3) := by decide +kernel
theorem dX6_place_10 : decode cX6_place 10 = .ok (.ifCond .ne 9, 3) := by decide +kernel
theorem dX6_place_13 : decode cX6_place 13 = .ok (.aload_n 0, 1) := by decide +kernel
theorem dX6_place_14 : decode cX6_place 14 = .ok (.iconst 1, 1) := by decide +kernel
theorem dX6_place_15 : decode cX6_place 15 = .ok (.invokevirtual 95, 3) := by decide +kernel
theorem dX6_place_18 : decode cX6_place 18 = .ok (.ireturn, 1) := by decide +kernel
theorem dX6_place_19 : decode cX6_place 19 = .ok (.iload_n 2, 1) := by decide +kernel
theorem dX6_place_20 : decode cX6_place 20 = .ok (.iconst (-1), 1) := by decide +kernel
theorem dX6_place_21 : decode cX6_place 21 = .ok (.iconst 2, 1) := by decide +kernel
theorem dX6_place_22 : decode cX6_place 22 = .ok (.invokestatic 87, 3) := by decide +kernel
theorem dX6_place_25 : decode cX6_place 25 = .ok (.ifCond .eq 26, 3) := by decide +kernel
theorem dX6_place_28 : decode cX6_place 28 = .ok (.iload_n 2, 1) := by decide +kernel
theorem dX6_place_29 : decode cX6_place 29 = .ok (.iconst (-1), 1) := by decide +kernel
theorem dX6_place_30 : decode cX6_place 30 = .ok (.if_icmp .eq 27, 3) := by decide +kernel
theorem dX6_place_33 : decode cX6_place 33 = .ok (.iload_n 3, 1) := by decide +kernel
theorem dX6_place_34 : decode cX6_place 34 = .ok (.ifCond .lt 17, 3) := by decide +kernel
theorem dX6_place_37 : decode cX6_place 37 = .ok (.iload_n 3, 1) := by decide +kernel
theorem dX6_place_38 : decode cX6_place 38 = .ok (.iload 4, 2) := by decide +kernel
theorem dX6_place_40 : decode cX6_place 40 = .ok (.if_icmp .gt 11, 3) := by decide +kernel
theorem dX6_place_43 : decode cX6_place 43 = .ok (.iload 4, 2) := by decide +kernel
theorem dX6_place_45 : decode cX6_place 45 = .ok (.sipush 1000, 3) := by decide +kernel
theorem dX6_place_48 : decode cX6_place 48 = .ok (.if_icmp .le 9, 3) := by decide +kernel
theorem dX6_place_51 : decode cX6_place 51 = .ok (.aload_n 0, 1) := by decide +kernel
theorem dX6_place_52 : decode cX6_place 52 = .ok (.iconst 2, 1) := by decide +kernel
theorem dX6_place_53 : decode cX6_place 53 = .ok (.invokevirtual 95, 3) := by decide +kernel
theorem dX6_place_56 : decode cX6_place 56 = .ok (.ireturn, 1) := by decide +kernel
theorem dX6_place_57 : decode cX6_place 57 = .ok (.iconst 0, 1) := by decide +kernel
theorem dX6_place_58 : decode cX6_place 58 = .ok (.istore 5, 2) := by decide +kernel
theorem dX6_place_60 : decode cX6_place 60 = .ok (.iload 5, 2) := by decide +kernel
theorem dX6_place_62 : decode cX6_place 62 = .ok (.aload_n 0, 1) := by decide +kernel
theorem dX6_place_63 : decode cX6_place 63 = .ok (.getfield 84, 3) := by decide +kernel
theorem dX6_place_66 : decode cX6_place 66 = .ok (.if_icmp .ge 63, 3) := by decide +kernel
theorem dX6_place_69 : decode cX6_place 69 = .ok (.iload_n 2, 1) := by decide +kernel
theorem dX6_place_70 : decode cX6_place 70 = .ok (.iconst (-1), 1) := by decide +kernel
theorem dX6_place_71 : decode cX6_place 71 = .ok (.if_icmp .eq 58, 3) := by decide +kernel
theorem dX6_place_74 : decode cX6_place 74 = .ok (.iload 5, 2) := by decide +kernel
theorem dX6_place_76 : decode cX6_place 76 = .ok (.iload_n 1, 1) := by decide +kernel
theorem dX6_place_77 : decode cX6_place 77 = .ok (.if_icmp .eq 46, 3) := by decide +kernel
theorem dX6_place_80 : decode cX6_place 80 = .ok (.aload_n 0, 1) := by decide +kernel
theorem dX6_place_81 : decode cX6_place 81 = .ok (.getfield 35, 3) := by decide +kernel
theorem dX6_place_84 : decode cX6_place 84 = .ok (.iload 5, 2) := by decide +kernel
theorem dX6_place_86 : decode cX6_place 86 = .ok (.iaload, 1) := by decide +kernel
theorem dX6_place_87 : decode cX6_place 87 = .ok (.iload_n 2, 1) := by decide +kernel
theorem dX6_place_88 : decode cX6_place 88 = .ok (.if_icmp .ne 35, 3) := by decide +kernel
theorem dX6_place_91 : decode cX6_place 91 = .ok (.iload_n 3, 1) := by decide +kernel
theorem dX6_place_92 : decode cX6_place 92 = .ok (.aload_n 0, 1) := by decide +kernel
theorem dX6_place_93 : decode cX6_place 93 = .ok (.getfield 38, 3) := by decide +kernel
theorem dX6_place_96 : decode cX6_place 96 = .ok (.iload 5, 2) := by decide +kernel
theorem dX6_place_98 : decode cX6_place 98 = .ok (.iaload, 1) := by decide +kernel
theorem dX6_place_99 : decode cX6_place 99 = .ok (.invokestatic 121, 3) := by decide +kernel
theorem dX6_place_102 : decode cX6_place 102 = .ok (.iload 4, 2) := by decide +kernel
theorem dX6_place_104 : decode cX6_place 104 = .ok (.aload_n 0, 1) := by decide +kernel
theorem dX6_place_105 : decode cX6_place 105 = .ok (.getfield 41, 3) := by decide +kernel
theorem dX6_place_108 : decode cX6_place 108 = .ok (.iload 5, 2) := by decide +kernel
theorem dX6_place_110 : decode cX6_place 110 = .ok (.iaload, 1) := by decide +kernel
theorem dX6_place_111 : decode cX6_place 111 = .ok (.invokestatic 124, 3) := by decide +kernel
theorem dX6_place_114 : decode cX6_place 114 = .ok (.if_icmp .ge 9, 3) := by decide +kernel
theorem dX6_place_117 : decode cX6_place 117 = .ok (.aload_n 0, 1) := by decide +kernel
theorem dX6_place_118 : decode cX6_place 118 = .ok (.iconst 3, 1) := by decide +kernel
theorem dX6_place_119 : decode cX6_place 119 = .ok (.invokevirtual 95, 3) := by decide +kernel
theorem dX6_place_122 : decode cX6_place 122 = .ok (.ireturn, 1) := by decide +kernel
theorem dX6_place_123 : decode cX6_place 123 = .ok (.iinc 5 1, 3) := by decide +kernel
theorem dX6_place_126 : decode cX6_place 126 = .ok (.goto (-66), 3) := by decide +kernel
theorem dX6_place_129 : decode cX6_place 129 = .ok (.aload_n 0, 1) := by decide +kernel
theorem dX6_place_130 : decode cX6_place 130 = .ok (.getfield 35, 3) := by decide +kernel
theorem dX6_place_133 : decode cX6_place 133 = .ok (.iload_n 1, 1) := by decide +kernel
theorem dX6_place_134 : decode cX6_place 134 = .ok (.iaload, 1) := by decide +kernel
theorem dX6_place_135 : decode cX6_place 135 = .ok (.istore 5, 2) := by decide +kernel
theorem dX6_place_137 : decode cX6_place 137 = .ok (.aload_n 0, 1) := by decide +kernel
theorem dX6_place_138 : decode cX6_place 138 = .ok (.getfield 35, 3) := by decide +kernel
theorem dX6_place_141 : decode cX6_place 141 = .ok (.iload_n 1, 1) := by decide +kernel
theorem dX6_place_142 : decode cX6_place 142 = .ok (.iload_n 2, 1) := by decide +kernel
theorem dX6_place_143 : decode cX6_place 143 = .ok (.iastore, 1) := by decide +kernel
theorem dX6_place_144 : decode cX6_place 144 = .ok (.aload_n 0, 1) := by decide +kernel
theorem dX6_place_145 : decode cX6_place 145 = .ok (.getfield 38, 3) := by decide +kernel
theorem dX6_place_148 : decode cX6_place 148 = .ok (.iload_n 1, 1) := by decide +kernel
theorem dX6_place_149 : decode cX6_place 149 = .ok (.iload_n 2, 1) := by decide +kernel
theorem dX6_place_150 : decode cX6_place 150 = .ok (.iconst (-1), 1) := by decide +kernel
theorem dX6_place_151 : decode cX6_place 151 = .ok (.if_icmp .ne 7, 3) := by decide +kernel
theorem dX6_place_154 : decode cX6_place 154 = .ok (.iconst 0, 1) := by decide +kernel
theorem dX6_place_155 : decode cX6_place 155 = .ok (.goto 4, 3) := by decide +kernel
theorem dX6_place_158 : decode cX6_place 158 = .ok (.iload_n 3, 1) := by decide +kernel
theorem dX6_place_159 : decode cX6_place 159 = .ok (.iastore, 1) := by decide +kernel
theorem dX6_place_160 : decode cX6_place 160 = .ok (.aload_n 0, 1) := by decide +kernel
theorem dX6_place_161 : decode cX6_place 161 = .ok (.getfield 41, 3) := by decide +kernel
theorem dX6_place_164 : decode cX6_place 164 = .ok (.iload_n 1, 1) := by decide +kernel
theorem dX6_place_165 : decode cX6_place 165 = .ok (.iload_n 2, 1) := by decide +kernel
theorem dX6_place_166 : decode cX6_place 166 = .ok (.iconst (-1), 1) := by decide +kernel
theorem dX6_place_167 : decode cX6_place 167 = .ok (.if_icmp .ne 7, 3) := by decide +kernel
theorem dX6_place_170 : decode cX6_place 170 = .ok (.iconst 0, 1) := by decide +kernel
theorem dX6_place_171 : decode cX6_place 171 = .ok (.goto 5, 3) := by decide +kernel
theorem dX6_place_174 : decode cX6_place 174 = .ok (.iload 4, 2) := by decide +kernel
theorem dX6_place_176 : decode cX6_place 176 = .ok (.iastore, 1) := by decide +kernel
theorem dX6_place_177 : decode cX6_place 177 = .ok (.iload 5, 2) := by decide +kernel
theorem dX6_place_179 : decode cX6_place 179 = .ok (.ireturn, 1) := by decide +kernel
theorem dX6_need_0 : decode cX6_need 0 = .ok (.aload_n 0, 1) := by decide +kernel
theorem dX6_need_1 : decode cX6_need 1 = .ok (.iconst 0, 1) := by decide +kernel
theorem dX6_need_2 : decode cX6_need 2 = .ok (.putfield 80, 3) := by decide +kernel
theorem dX6_need_5 : decode cX6_need 5 = .ok (.aload_n 0, 1) := by decide +kernel
theorem dX6_need_6 : decode cX6_need 6 = .ok (.iload_n 1, 1) := by decide +kernel
theorem dX6_need_7 : decode cX6_need 7 = .ok (.invokevirtual 91, 3) := by decide +kernel
theorem dX6_need_10 : decode cX6_need 10 = .ok (.ifCond .eq 17, 3) := by decide +kernel
theorem dX6_need_13 : decode cX6_need 13 = .ok (.iload_n 2, 1) := by decide +kernel
theorem dX6_need_14 : decode cX6_need 14 = .ok (.iconst (-1), 1) := by decide +kernel
theorem dX6_need_15 : decode cX6_need 15 = .ok (.if_icmp .eq 18, 3) := by decide +kernel
theorem dX6_need_18 : decode cX6_need 18 = .ok (.aload_n 0, 1) := by decide +kernel
theorem dX6_need_19 : decode cX6_need 19 = .ok (.iload_n 2, 1) := by decide +kernel
theorem dX6_need_20 : decode cX6_need 20 = .ok (.iload_n 3, 1) := by decide +kernel
theorem dX6_need_21 : decode cX6_need 21 = .ok (.invokevirtual 102, 3) := by decide +kernel
theorem dX6_need_24 : decode cX6_need 24 = .ok (.ifCond .ne 9, 3) := by decide +kernel
theorem dX6_need_27 : decode cX6_need 27 = .ok (.aload_n 0, 1) := by decide +kernel
theorem dX6_need_28 : decode cX6_need 28 = .ok (.iconst 1, 1) := by decide +kernel
theorem dX6_need_29 : decode cX6_need 29 = .ok (.invokevirtual 95, 3) := by decide +kernel
theorem dX6_need_32 : decode cX6_need 32 = .ok (.ireturn, 1) := by decide +kernel
theorem dX6_need_33 : decode cX6_need 33 = .ok (.iload_n 2, 1) := by decide +kernel
theorem dX6_need_34 : decode cX6_need 34 = .ok (.iload_n 1, 1) := by decide +kernel
theorem dX6_need_35 : decode cX6_need 35 = .ok (.if_icmp .lt 9, 3) := by decide +kernel
theorem dX6_need_38 : decode cX6_need 38 = .ok (.aload_n 0, 1) := by decide +kernel
theorem dX6_need_39 : decode cX6_need 39 = .ok (.iconst 2, 1) := by decide +kernel
theorem dX6_need_40 : decode cX6_need 40 = .ok (.invokevirtual 95, 3) := by decide +kernel
theorem dX6_need_43 : decode cX6_need 43 = .ok (.ireturn, 1) := by decide +kernel
theorem dX6_need_44 : decode cX6_need 44 = .ok (.aload_n 0, 1) := by decide +kernel
theorem dX6_need_45 : decode cX6_need 45 = .ok (.getfield 44, 3) := by decide +kernel
theorem dX6_need_48 : decode cX6_need 48 = .ok (.iload_n 1, 1) := by decide +kernel
theorem dX6_need_49 : decode cX6_need 49 = .ok (.iaload, 1) := by decide +kernel
theorem dX6_need_50 : decode cX6_need 50 = .ok (.istore 4, 2) := by decide +kernel
theorem dX6_need_52 : decode cX6_need 52 = .ok (.aload_n 0, 1) := by decide +kernel
theorem dX6_need_53 : decode cX6_need 53 = .ok (.getfield 44, 3) := by decide +kernel
theorem dX6_need_56 : decode cX6_need 56 = .ok (.iload_n 1, 1) := by decide +kernel
theorem dX6_need_57 : decode cX6_need 57 = .ok (.iload_n 2, 1) := by decide +kernel
theorem dX6_need_58 : decode cX6_need 58 = .ok (.iastore, 1) := by decide +kernel
theorem dX6_need_59 : decode cX6_need 59 = .ok (.aload_n 0, 1) := by decide +kernel
theorem dX6_need_60 : decode cX6_need 60 = .ok (.getfield 47, 3) := by decide +kernel
theorem dX6_need_63 : decode cX6_need 63 = .ok (.iload_n 1, 1) := by decide +kernel
theorem dX6_need_64 : decode cX6_need 64 = .ok (.iload_n 3, 1) := by decide +kernel
theorem dX6_need_65 : decode cX6_need 65 = .ok (.iastore, 1) := by decide +kernel
theorem dX6_need_66 : decode cX6_need 66 = .ok (.iload 4, 2) := by decide +kernel
theorem dX6_need_68 : decode cX6_need 68 = .ok (.ireturn, 1) := by decide +kernel
theorem dX6_rule_0 : decode cX6_rule 0 = .ok (.aload_n 0, 1) := by decide +kernel
theorem dX6_rule_1 : decode cX6_rule 1 = .ok (.iconst 0, 1) := by decide +kernel
theorem dX6_rule_2 : decode cX6_rule 2 = .ok (.putfield 80, 3) := by decide +kernel
theorem dX6_rule_5 : decode cX6_rule 5 = .ok (.aload_n 0, 1) := by decide +kernel
theorem dX6_rule_6 : decode cX6_rule 6 = .ok (.iload_n 1, 1) := by decide +kernel
theorem dX6_rule_7 : decode cX6_rule 7 = .ok (.invokevirtual 91, 3) := by decide +kernel
theorem dX6_rule_10 : decode cX6_rule 10 = .ok (.ifCond .eq 19, 3) := by decide +kernel
theorem dX6_rule_13 : decode cX6_rule 13 = .ok (.iload 5, 2) := by decide +kernel
theorem dX6_rule_15 : decode cX6_rule 15 = .ok (.iconst (-1), 1) := by decide +kernel
theorem dX6_rule_16 : decode cX6_rule 16 = .ok (.if_icmp .eq 19, 3) := by decide +kernel
theorem dX6_rule_19 : decode cX6_rule 19 = .ok (.aload_n 0, 1) := by decide +kernel
theorem dX6_rule_20 : decode cX6_rule 20 = .ok (.iload_n 1, 1) := by decide +kernel
theorem dX6_rule_21 : decode cX6_rule 21 = .ok (.iload 5, 2) := by decide +kernel
theorem dX6_rule_23 : decode cX6_rule 23 = .ok (.invokevirtual 102, 3) := by decide +kernel
theorem dX6_rule_26 : decode cX6_rule 26 = .ok (.ifCond .ne 9, 3) := by decide +kernel
theorem dX6_rule_29 : decode cX6_rule 29 = .ok (.aload_n 0, 1) := by decide +kernel
theorem dX6_rule_30 : decode cX6_rule 30 = .ok (.iconst 1, 1) := by decide +kernel
theorem dX6_rule_31 : decode cX6_rule 31 = .ok (.invokevirtual 95, 3) := by decide +kernel
theorem dX6_rule_34 : decode cX6_rule 34 = .ok (.ireturn, 1) := by decide +kernel
theorem dX6_rule_35 : decode cX6_rule 35 = .ok (.iload_n 2, 1) := by decide +kernel
theorem dX6_rule_36 : decode cX6_rule 36 = .ok (.iconst 0, 1) := by decide +kernel
theorem dX6_rule_37 : decode cX6_rule 37 = .ok (.iconst 1, 1) := by decide +kernel
theorem dX6_rule_38 : decode cX6_rule 38 = .ok (.invokestatic 87, 3) := by decide +kernel
theorem dX6_rule_41 : decode cX6_rule 41 = .ok (.ifCond .eq 23, 3) := by decide +kernel
theorem dX6_rule_44 : decode cX6_rule 44 = .ok (.iload_n 3, 1) := by decide +kernel
theorem dX6_rule_45 : decode cX6_rule 45 = .ok (.iconst 1, 1) := by decide +kernel
theorem dX6_rule_46 : decode cX6_rule 46 = .ok (.iconst 3, 1) := by decide +kernel
theorem dX6_rule_47 : decode cX6_rule 47 = .ok (.invokestatic 87, 3) := by decide +kernel
theorem dX6_rule_50 : decode cX6_rule 50 = .ok (.ifCond .eq 14, 3) := by decide +kernel
theorem dX6_rule_53 : decode cX6_rule 53 = .ok (.iload 4, 2) := by decide +kernel
theorem dX6_rule_55 : decode cX6_rule 55 = .ok (.iconst 0, 1) := by decide +kernel
theorem dX6_rule_56 : decode cX6_rule 56 = .ok (.bipush 9, 2) := by decide +kernel
theorem dX6_rule_58 : decode cX6_rule 58 = .ok (.invokestatic 87, 3) := by decide +kernel
theorem dX6_rule_61 : decode cX6_rule 61 = .ok (.ifCond .ne 9, 3) := by decide +kernel
theorem dX6_rule_64 : decode cX6_rule 64 = .ok (.aload_n 0, 1) := by decide +kernel
theorem dX6_rule_65 : decode cX6_rule 65 = .ok (.iconst 2, 1) := by decide +kernel
theorem dX6_rule_66 : decode cX6_rule 66 = .ok (.invokevirtual 95, 3) := by decide +kernel
theorem dX6_rule_69 : decode cX6_rule 69 = .ok (.ireturn, 1) := by decide +kernel
theorem dX6_rule_70 : decode cX6_rule 70 = .ok (.aload_n 0, 1) := by decide +kernel
theorem dX6_rule_71 : decode cX6_rule 71 = .ok (.getfield 50, 3) := by decide +kernel
theorem dX6_rule_74 : decode cX6_rule 74 = .ok (.iload_n 1, 1) := by decide +kernel
theorem dX6_rule_75 : decode cX6_rule 75 = .ok (.iaload, 1) := by decide +kernel
theorem dX6_rule_76 : decode cX6_rule 76 = .ok (.iconst 5, 1) := by decide +kernel
theorem dX6_rule_77 : decode cX6_rule 77 = .ok (.if_icmp .ne 9, 3) := by decide +kernel
theorem dX6_rule_80 : decode cX6_rule 80 = .ok (.aload_n 0, 1) := by decide +kernel
theorem dX6_rule_81 : decode cX6_rule 81 = .ok (.iconst 3, 1) := by decide +kernel
theorem dX6_rule_82 : decode cX6_rule 82 = .ok (.invokevirtual 95, 3) := by decide +kernel
theorem dX6_rule_85 : decode cX6_rule 85 = .ok (.ireturn, 1) := by decide +kernel
theorem dX6_rule_86 : decode cX6_rule 86 = .ok (.iload_n 1, 1) := by decide +kernel
theorem dX6_rule_87 : decode cX6_rule 87 = .ok (.iconst 5, 1) := by decide +kernel
theorem dX6_rule_88 : decode cX6_rule 88 = .ok (.imul, 1) := by decide +kernel
theorem dX6_rule_89 : decode cX6_rule 89 = .ok (.aload_n 0, 1) := by decide +kernel
theorem dX6_rule_90 : decode cX6_rule 90 = .ok (.getfield 50, 3) := by decide +kernel
theorem dX6_rule_93 : decode cX6_rule 93 = .ok (.iload_n 1, 1) := by decide +kernel
theorem dX6_rule_94 : decode cX6_rule 94 = .ok (.iaload, 1) := by decide +kernel
theorem dX6_rule_95 : decode cX6_rule 95 = .ok (.iadd, 1) := by decide +kernel
theorem dX6_rule_96 : decode cX6_rule 96 = .ok (.istore 6, 2) := by decide +kernel
theorem dX6_rule_98 : decode cX6_rule 98 = .ok (.aload_n 0, 1) := by decide +kernel
theorem dX6_rule_99 : decode cX6_rule 99 = .ok (.getfield 53, 3) := by decide +kernel
theorem dX6_rule_102 : decode cX6_rule 102 = .ok (.iload 6, 2) := by decide +kernel
theorem dX6_rule_104 : decode cX6_rule 104 = .ok (.iload_n 2, 1) := by decide +kernel
theorem dX6_rule_105 : decode cX6_rule 105 = .ok (.iastore, 1) := by decide +kernel
theorem dX6_rule_106 : decode cX6_rule 106 = .ok (.aload_n 0, 1) := by decide +kernel
theorem dX6_rule_107 : decode cX6_rule 107 = .ok (.getfield 56, 3) := by decide +kernel
theorem dX6_rule_110 : decode cX6_rule 110 = .ok (.iload 6, 2) := by decide +kernel
theorem dX6_rule_112 : decode cX6_rule 112 = .ok (.iload_n 3, 1) := by decide +kernel
theorem dX6_rule_113 : decode cX6_rule 113 = .ok (.iastore, 1) := by decide +kernel
theorem dX6_rule_114 : decode cX6_rule 114 = .ok (.aload_n 0, 1) := by decide +kernel
theorem dX6_rule_115 : decode cX6_rule 115 = .ok (.getfield 59, 3) := by decide +kernel
theorem dX6_rule_118 : decode cX6_rule 118 = .ok (.iload 6, 2) := by decide +kernel
theorem dX6_rule_120 : decode cX6_rule 120 = .ok (.iload 4, 2) := by decide +kernel
theorem dX6_rule_122 : decode cX6_rule 122 = .ok (.iastore, 1) := by decide +kernel
theorem dX6_rule_123 : decode cX6_rule 123 = .ok (.aload_n 0, 1) := by decide +kernel
theorem dX6_rule_124 : decode cX6_rule 124 = .ok (.getfield 62, 3) := by decide +kernel
theorem dX6_rule_127 : decode cX6_rule 127 = .ok (.iload 6, 2) := by decide +kernel
theorem dX6_rule_129 : decode cX6_rule 129 = .ok (.iload 5, 2) := by decide +kernel
theorem dX6_rule_131 : decode cX6_rule 131 = .ok (.iastore, 1) := by decide +kernel
theorem dX6_rule_132 : decode cX6_rule 132 = .ok (.aload_n 0, 1) := by decide +kernel
theorem dX6_rule_133 : decode cX6_rule 133 = .ok (.getfield 50, 3) := by decide +kernel
theorem dX6_rule_136 : decode cX6_rule 136 = .ok (.iload_n 1, 1) := by decide +kernel
theorem dX6_rule_137 : decode cX6_rule 137 = .ok (.dup2, 1) := by decide +kernel
theorem dX6_rule_138 : decode cX6_rule 138 = .ok (.iaload, 1) := by decide +kernel
theorem dX6_rule_139 : decode cX6_rule 139 = .ok (.iconst 1, 1) := by decide +kernel
theorem dX6_rule_140 : decode cX6_rule 140 = .ok (.iadd, 1) := by decide +kernel
theorem dX6_rule_141 : decode cX6_rule 141 = .ok (.dup_x2, 1) := by decide +kernel
theorem dX6_rule_142 : decode cX6_rule 142 = .ok (.iastore, 1) := by decide +kernel
theorem dX6_rule_143 : decode cX6_rule 143 = .ok (.ireturn, 1) := by decide +kernel
theorem dX6_moveUp_0 : decode cX6_moveUp 0 = .ok (.aload_n 0, 1) := by decide +kernel
theorem dX6_moveUp_1 : decode cX6_moveUp 1 = .ok (.iload_n 1, 1) := by decide +kernel
theorem dX6_moveUp_2 : decode cX6_moveUp 2 = .ok (.iconst 1, 1) := by decide +kernel
theorem dX6_moveUp_3 : decode cX6_moveUp 3 = .ok (.iadd, 1) := by decide +kernel
theorem dX6_moveUp_4 : decode cX6_moveUp 4 = .ok (.aload_n 0, 1) := by decide +kernel
theorem dX6_moveUp_5 : decode cX6_moveUp 5 = .ok (.iload_n 1, 1) := by decide +kernel
theorem dX6_moveUp_6 : decode cX6_moveUp 6 = .ok (.iload_n 2, 1) := by decide +kernel
theorem dX6_moveUp_7 : decode cX6_moveUp 7 = .ok (.iload_n 1, 1) := by decide +kernel
theorem dX6_moveUp_8 : decode cX6_moveUp 8 = .ok (.isub, 1) := by decide +kernel
theorem dX6_moveUp_9 : decode cX6_moveUp 9 = .ok (.iconst 1, 1) := by decide +kernel
theorem dX6_moveUp_10 : decode cX6_moveUp 10 = .ok (.isub, 1) := by decide +kernel
theorem dX6_moveUp_11 : decode cX6_moveUp 11 = .ok (.invokestatic 126, 3) := by decide +kernel
theorem dX6_moveUp_14 : decode cX6_moveUp 14 = .ok (.return_, 1) := by decide +kernel
theorem dX6_unrule_0 : decode cX6_unrule 0 = .ok (.aload_n 0, 1) := by decide +kernel
theorem dX6_unrule_1 : decode cX6_unrule 1 = .ok (.iconst 0, 1) := by decide +kernel
theorem dX6_unrule_2 : decode cX6_unrule 2 = .ok (.putfield 80, 3) := by decide +kernel
theorem dX6_unrule_5 : decode cX6_unrule 5 = .ok (.aload_n 0, 1) := by decide +kernel
theorem dX6_unrule_6 : decode cX6_unrule 6 = .ok (.iload_n 1, 1) := by decide +kernel
theorem dX6_unrule_7 : decode cX6_unrule 7 = .ok (.invokevirtual 91, 3) := by decide +kernel
theorem dX6_unrule_10 : decode cX6_unrule 10 = .ok (.ifCond .eq 19, 3) := by decide +kernel
theorem dX6_unrule_13 : decode cX6_unrule 13 = .ok (.iload_n 2, 1) := by decide +kernel
theorem dX6_unrule_14 : decode cX6_unrule 14 = .ok (.iconst 0, 1) := by decide +kernel
theorem dX6_unrule_15 : decode cX6_unrule 15 = .ok (.aload_n 0, 1) := by decide +kernel
theorem dX6_unrule_16 : decode cX6_unrule 16 = .ok (.getfield 50, 3) := by decide +kernel
theorem dX6_unrule_19 : decode cX6_unrule 19 = .ok (.iload_n 1, 1) := by decide +kernel
theorem dX6_unrule_20 : decode cX6_unrule 20 = .ok (.iaload, 1) := by decide +kernel
theorem dX6_unrule_21 : decode cX6_unrule 21 = .ok (.iconst 1, 1) := by decide +kernel
theorem dX6_unrule_22 : decode cX6_unrule 22 = .ok (.isub, 1) := by decide +kernel
theorem dX6_unrule_23 : decode cX6_unrule 23 = .ok (.invokestatic 87, 3) := by decide +kernel
theorem dX6_unrule_26 : decode cX6_unrule 26 = .ok (.ifCond .ne 9, 3) := by decide +kernel
theorem dX6_unrule_29 : decode cX6_unrule 29 = .ok (.aload_n 0, 1) := by decide +kernel
theorem dX6_unrule_30 : decode cX6_unrule 30 = .ok (.iconst 1, 1) := by decide +kernel
theorem dX6_unrule_31 : decode cX6_unrule 31 = .ok (.invokevirtual 95, 3) := by decide +kernel
theorem dX6_unrule_34 : decode cX6_unrule 34 = .ok (.ireturn, 1) := by decide +kernel
theorem dX6_unrule_35 : decode cX6_unrule 35 = .ok (.iload_n 1, 1) := by decide +kernel
theorem dX6_unrule_36 : decode cX6_unrule 36 = .ok (.iconst 5, 1) := by decide +kernel
theorem dX6_unrule_37 : decode cX6_unrule 37 = .ok (.imul, 1) := by decide +kernel
theorem dX6_unrule_38 : decode cX6_unrule 38 = .ok (.iload_n 2, 1) := by decide +kernel
theorem dX6_unrule_39 : decode cX6_unrule 39 = .ok (.iadd, 1) := by decide +kernel
theorem dX6_unrule_40 : decode cX6_unrule 40 = .ok (.istore_n 3, 1) := by decide +kernel
theorem dX6_unrule_41 : decode cX6_unrule 41 = .ok (.iload_n 1, 1) := by decide +kernel
theorem dX6_unrule_42 : decode cX6_unrule 42 = .ok (.iconst 5, 1) := by decide +kernel
theorem dX6_unrule_43 : decode cX6_unrule 43 = .ok (.imul, 1) := by decide +kernel
theorem dX6_unrule_44 : decode cX6_unrule 44 = .ok (.aload_n 0, 1) := by decide +kernel
theorem dX6_unrule_45 : decode cX6_unrule 45 = .ok (.getfield 50, 3) := by decide +kernel
theorem dX6_unrule_48 : decode cX6_unrule 48 = .ok (.iload_n 1, 1) := by decide +kernel
theorem dX6_unrule_49 : decode cX6_unrule 49 = .ok (.iaload, 1) := by decide +kernel
theorem dX6_unrule_50 : decode cX6_unrule 50 = .ok (.iadd, 1) := by decide +kernel
theorem dX6_unrule_51 : decode cX6_unrule 51 = .ok (.istore 4, 2) := by decide +kernel
theorem dX6_unrule_53 : decode cX6_unrule 53 = .ok (.aload_n 0, 1) := by decide +kernel
theorem dX6_unrule_54 : decode cX6_unrule 54 = .ok (.getfield 53, 3) := by decide +kernel
theorem dX6_unrule_57 : decode cX6_unrule 57 = .ok (.iload_n 3, 1) := by decide +kernel
theorem dX6_unrule_58 : decode cX6_unrule 58 = .ok (.iload 4, 2) := by decide +kernel
theorem dX6_unrule_60 : decode cX6_unrule 60 = .ok (.invokestatic 132, 3) := by decide +kernel
theorem dX6_unrule_63 : decode cX6_unrule 63 = .ok (.aload_n 0, 1) := by decide +kernel
theorem dX6_unrule_64 : decode cX6_unrule 64 = .ok (.getfield 56, 3) := by decide +kernel
theorem dX6_unrule_67 : decode cX6_unrule 67 = .ok (.iload_n 3, 1) := by decide +kernel
theorem dX6_unrule_68 : decode cX6_unrule 68 = .ok (.iload 4, 2) := by decide +kernel
theorem dX6_unrule_70 : decode cX6_unrule 70 = .ok (.invokestatic 132, 3) := by decide +kernel
theorem dX6_unrule_73 : decode cX6_unrule 73 = .ok (.aload_n 0, 1) := by decide +kernel
theorem dX6_unrule_74 : decode cX6_unrule 74 = .ok (.getfield 59, 3) := by decide +kernel
theorem dX6_unrule_77 : decode cX6_unrule 77 = .ok (.iload_n 3, 1) := by decide +kernel
theorem dX6_unrule_78 : decode cX6_unrule 78 = .ok (.iload 4, 2) := by decide +kernel
theorem dX6_unrule_80 : decode cX6_unrule 80 = .ok (.invokestatic 132, 3) := by decide +kernel
theorem dX6_unrule_83 : decode cX6_unrule 83 = .ok (.aload_n 0, 1) := by decide +kernel
theorem dX6_unrule_84 : decode cX6_unrule 84 = .ok (.getfield 62, 3) := by decide +kernel
theorem dX6_unrule_87 : decode cX6_unrule 87 = .ok (.iload_n 3, 1) := by decide +kernel
theorem dX6_unrule_88 : decode cX6_unrule 88 = .ok (.iload 4, 2) := by decide +kernel
theorem dX6_unrule_90 : decode cX6_unrule 90 = .ok (.invokestatic 132, 3) := by decide +kernel
theorem dX6_unrule_93 : decode cX6_unrule 93 = .ok (.aload_n 0, 1) := by decide +kernel
theorem dX6_unrule_94 : decode cX6_unrule 94 = .ok (.getfield 50, 3) := by decide +kernel
theorem dX6_unrule_97 : decode cX6_unrule 97 = .ok (.iload_n 1, 1) := by decide +kernel
theorem dX6_unrule_98 : decode cX6_unrule 98 = .ok (.dup2, 1) := by decide +kernel
theorem dX6_unrule_99 : decode cX6_unrule 99 = .ok (.iaload, 1) := by decide +kernel
theorem dX6_unrule_100 : decode cX6_unrule 100 = .ok (.iconst 1, 1) := by decide +kernel
theorem dX6_unrule_101 : decode cX6_unrule 101 = .ok (.isub, 1) := by decide +kernel
theorem dX6_unrule_102 : decode cX6_unrule 102 = .ok (.dup_x2, 1) := by decide +kernel
theorem dX6_unrule_103 : decode cX6_unrule 103 = .ok (.iastore, 1) := by decide +kernel
theorem dX6_unrule_104 : decode cX6_unrule 104 = .ok (.ireturn, 1) := by decide +kernel
theorem dX6_hold_0 : decode cX6_hold 0 = .ok (.aload_n 0, 1) := by decide +kernel
theorem dX6_hold_1 : decode cX6_hold 1 = .ok (.iconst 0, 1) := by decide +kernel
theorem dX6_hold_2 : decode cX6_hold 2 = .ok (.putfield 80, 3) := by decide +kernel
theorem dX6_hold_5 : decode cX6_hold 5 = .ok (.iload_n 1, 1) := by decide +kernel
theorem dX6_hold_6 : decode cX6_hold 6 = .ok (.iconst 0, 1) := by decide +kernel
theorem dX6_hold_7 : decode cX6_hold 7 = .ok (.sipush 1000, 3) := by decide +kernel
theorem dX6_hold_10 : decode cX6_hold 10 = .ok (.invokestatic 87, 3) := by decide +kernel
theorem dX6_hold_13 : decode cX6_hold 13 = .ok (.ifCond .ne 9, 3) := by decide +kernel
theorem dX6_hold_16 : decode cX6_hold 16 = .ok (.aload_n 0, 1) := by decide +kernel
theorem dX6_hold_17 : decode cX6_hold 17 = .ok (.iconst 1, 1) := by decide +kernel
theorem dX6_hold_18 : decode cX6_hold 18 = .ok (.invokevirtual 95, 3) := by decide +kernel
theorem dX6_hold_21 : decode cX6_hold 21 = .ok (.ireturn, 1) := by decide +kernel
theorem dX6_hold_22 : decode cX6_hold 22 = .ok (.aload_n 0, 1) := by decide +kernel
theorem dX6_hold_23 : decode cX6_hold 23 = .ok (.getfield 136, 3) := by decide +kernel
theorem dX6_hold_26 : decode cX6_hold 26 = .ok (.istore_n 2, 1) := by decide +kernel
theorem dX6_hold_27 : decode cX6_hold 27 = .ok (.aload_n 0, 1) := by decide +kernel
theorem dX6_hold_28 : decode cX6_hold 28 = .ok (.iload_n 1, 1) := by decide +kernel
theorem dX6_hold_29 : decode cX6_hold 29 = .ok (.putfield 136, 3) := by decide +kernel
theorem dX6_hold_32 : decode cX6_hold 32 = .ok (.iload_n 2, 1) := by decide +kernel
theorem dX6_hold_33 : decode cX6_hold 33 = .ok (.ireturn, 1) := by decide +kernel
theorem dX6_goOn_0 : decode cX6_goOn 0 = .ok (.aload_n 0, 1) := by decide +kernel
theorem dX6_goOn_1 : decode cX6_goOn 1 = .ok (.iconst 0, 1) := by decide +kernel
theorem dX6_goOn_2 : decode cX6_goOn 2 = .ok (.putfield 80, 3) := by decide +kernel
theorem dX6_goOn_5 : decode cX6_goOn 5 = .ok (.iload_n 1, 1) := by decide +kernel
theorem dX6_goOn_6 : decode cX6_goOn 6 = .ok (.iconst 1, 1) := by decide +kernel
theorem dX6_goOn_7 : decode cX6_goOn 7 = .ok (.bipush 100, 2) := by decide +kernel
theorem dX6_goOn_9 : decode cX6_goOn 9 = .ok (.invokestatic 87, 3) := by decide +kernel
theorem dX6_goOn_12 : decode cX6_goOn 12 = .ok (.ifCond .ne 9, 3) := by decide +kernel
theorem dX6_goOn_15 : decode cX6_goOn 15 = .ok (.aload_n 0, 1) := by decide +kernel
theorem dX6_goOn_16 : decode cX6_goOn 16 = .ok (.iconst 1, 1) := by decide +kernel
theorem dX6_goOn_17 : decode cX6_goOn 17 = .ok (.invokevirtual 95, 3) := by decide +kernel
theorem dX6_goOn_20 : decode cX6_goOn 20 = .ok (.ireturn, 1) := by decide +kernel
theorem dX6_goOn_21 : decode cX6_goOn 21 = .ok (.aload_n 0, 1) := by decide +kernel
theorem dX6_goOn_22 : decode cX6_goOn 22 = .ok (.dup, 1) := by decide +kernel
theorem dX6_goOn_23 : decode cX6_goOn 23 = .ok (.getfield 99, 3) := by decide +kernel
theorem dX6_goOn_26 : decode cX6_goOn 26 = .ok (.iload_n 1, 1) := by decide +kernel
theorem dX6_goOn_27 : decode cX6_goOn 27 = .ok (.iadd, 1) := by decide +kernel
theorem dX6_goOn_28 : decode cX6_goOn 28 = .ok (.putfield 99, 3) := by decide +kernel
theorem dX6_goOn_31 : decode cX6_goOn 31 = .ok (.aload_n 0, 1) := by decide +kernel
theorem dX6_goOn_32 : decode cX6_goOn 32 = .ok (.getfield 99, 3) := by decide +kernel
theorem dX6_goOn_35 : decode cX6_goOn 35 = .ok (.ireturn, 1) := by decide +kernel
theorem dX6_switches_0 : decode cX6_switches 0 = .ok (.aload_n 0, 1) := by decide +kernel
theorem dX6_switches_1 : decode cX6_switches 1 = .ok (.aload_n 0, 1) := by decide +kernel
theorem dX6_switches_2 : decode cX6_switches 2 = .ok (.getfield 84, 3) := by decide +kernel
theorem dX6_switches_5 : decode cX6_switches 5 = .ok (.invokevirtual 139, 3) := by decide +kernel
theorem dX6_switches_8 : decode cX6_switches 8 = .ok (.ireturn, 1) := by decide +kernel
theorem dX6_weight_0 : decode cX6_weight 0 = .ok (.aload_n 0, 1) := by decide +kernel
theorem dX6_weight_1 : decode cX6_weight 1 = .ok (.iconst 0, 1) := by decide +kernel
theorem dX6_weight_2 : decode cX6_weight 2 = .ok (.putfield 80, 3) := by decide +kernel
theorem dX6_weight_5 : decode cX6_weight 5 = .ok (.aload_n 0, 1) := by decide +kernel
theorem dX6_weight_6 : decode cX6_weight 6 = .ok (.iload_n 1, 1) := by decide +kernel
theorem dX6_weight_7 : decode cX6_weight 7 = .ok (.iload_n 2, 1) := by decide +kernel
theorem dX6_weight_8 : decode cX6_weight 8 = .ok (.invokevirtual 102, 3) := by decide +kernel
theorem dX6_weight_11 : decode cX6_weight 11 = .ok (.ifCond .eq 16, 3) := by decide +kernel
theorem dX6_weight_14 : decode cX6_weight 14 = .ok (.aload_n 0, 1) := by decide +kernel
theorem dX6_weight_15 : decode cX6_weight 15 = .ok (.getfield 16, 3) := by decide +kernel
theorem dX6_weight_18 : decode cX6_weight 18 = .ok (.iload_n 1, 1) := by decide +kernel
theorem dX6_weight_19 : decode cX6_weight 19 = .ok (.iconst 4, 1) := by decide +kernel
theorem dX6_weight_20 : decode cX6_weight 20 = .ok (.imul, 1) := by decide +kernel
theorem dX6_weight_21 : decode cX6_weight 21 = .ok (.iload_n 2, 1) := by decide +kernel
theorem dX6_weight_22 : decode cX6_weight 22 = .ok (.iadd, 1) := by decide +kernel
theorem dX6_weight_23 : decode cX6_weight 23 = .ok (.iaload, 1) := by decide +kernel
theorem dX6_weight_24 : decode cX6_weight 24 = .ok (.goto 8, 3) := by decide +kernel
theorem dX6_weight_27 : decode cX6_weight 27 = .ok (.aload_n 0, 1) := by decide +kernel
theorem dX6_weight_28 : decode cX6_weight 28 = .ok (.iconst 1, 1) := by decide +kernel
theorem dX6_weight_29 : decode cX6_weight 29 = .ok (.invokevirtual 95, 3) := by decide +kernel
theorem dX6_weight_32 : decode cX6_weight 32 = .ok (.ireturn, 1) := by decide +kernel
theorem dX6_share_0 : decode cX6_share 0 = .ok (.aload_n 0, 1) := by decide +kernel
theorem dX6_share_1 : decode cX6_share 1 = .ok (.iconst 0, 1) := by decide +kernel
theorem dX6_share_2 : decode cX6_share 2 = .ok (.putfield 80, 3) := by decide +kernel
theorem dX6_share_5 : decode cX6_share 5 = .ok (.aload_n 0, 1) := by decide +kernel
theorem dX6_share_6 : decode cX6_share 6 = .ok (.iload_n 1, 1) := by decide +kernel
theorem dX6_share_7 : decode cX6_share 7 = .ok (.invokevirtual 91, 3) := by decide +kernel
theorem dX6_share_10 : decode cX6_share 10 = .ok (.ifCond .eq 12, 3) := by decide +kernel
theorem dX6_share_13 : decode cX6_share 13 = .ok (.aload_n 0, 1) := by decide +kernel
theorem dX6_share_14 : decode cX6_share 14 = .ok (.iload_n 1, 1) := by decide +kernel
theorem dX6_share_15 : decode cX6_share 15 = .ok (.iconst 0, 1) := by decide +kernel
theorem dX6_share_16 : decode cX6_share 16 = .ok (.invokevirtual 117, 3) := by decide +kernel
theorem dX6_share_19 : decode cX6_share 19 = .ok (.goto 8, 3) := by decide +kernel
theorem dX6_share_22 : decode cX6_share 22 = .ok (.aload_n 0, 1) := by decide +kernel
theorem dX6_share_23 : decode cX6_share 23 = .ok (.iconst 1, 1) := by decide +kernel
theorem dX6_share_24 : decode cX6_share 24 = .ok (.invokevirtual 95, 3) := by decide +kernel
theorem dX6_share_27 : decode cX6_share 27 = .ok (.ireturn, 1) := by decide +kernel
theorem dX6_leftIn_0 : decode cX6_leftIn 0 = .ok (.sipush 1000, 3) := by decide +kernel
theorem dX6_leftIn_3 : decode cX6_leftIn 3 = .ok (.istore_n 2, 1) := by decide +kernel
theorem dX6_leftIn_4 : decode cX6_leftIn 4 = .ok (.iconst 0, 1) := by decide +kernel
theorem dX6_leftIn_5 : decode cX6_leftIn 5 = .ok (.istore_n 3, 1) := by decide +kernel
theorem dX6_leftIn_6 : decode cX6_leftIn 6 = .ok (.iload_n 3, 1) := by decide +kernel
theorem dX6_leftIn_7 : decode cX6_leftIn 7 = .ok (.aload_n 0, 1) := by decide +kernel
theorem dX6_leftIn_8 : decode cX6_leftIn 8 = .ok (.getfield 84, 3) := by decide +kernel
theorem dX6_leftIn_11 : decode cX6_leftIn 11 = .ok (.if_icmp .ge 39, 3) := by decide +kernel
theorem dX6_leftIn_14 : decode cX6_leftIn 14 = .ok (.iload_n 2, 1) := by decide +kernel
theorem dX6_leftIn_15 : decode cX6_leftIn 15 = .ok (.aload_n 0, 1) := by decide +kernel
theorem dX6_leftIn_16 : decode cX6_leftIn 16 = .ok (.getfield 35, 3) := by decide +kernel
theorem dX6_leftIn_19 : decode cX6_leftIn 19 = .ok (.iload_n 3, 1) := by decide +kernel
theorem dX6_leftIn_20 : decode cX6_leftIn 20 = .ok (.iaload, 1) := by decide +kernel
theorem dX6_leftIn_21 : decode cX6_leftIn 21 = .ok (.iload_n 1, 1) := by decide +kernel
theorem dX6_leftIn_22 : decode cX6_leftIn 22 = .ok (.if_icmp .ne 19, 3) := by decide +kernel
theorem dX6_leftIn_25 : decode cX6_leftIn 25 = .ok (.aload_n 0, 1) := by decide +kernel
theorem dX6_leftIn_26 : decode cX6_leftIn 26 = .ok (.getfield 41, 3) := by decide +kernel
theorem dX6_leftIn_29 : decode cX6_leftIn 29 = .ok (.iload_n 3, 1) := by decide +kernel
theorem dX6_leftIn_30 : decode cX6_leftIn 30 = .ok (.iaload, 1) := by decide +kernel
theorem dX6_leftIn_31 : decode cX6_leftIn 31 = .ok (.aload_n 0, 1) := by decide +kernel
theorem dX6_leftIn_32 : decode cX6_leftIn 32 = .ok (.getfield 38, 3) := by decide +kernel
theorem dX6_leftIn_35 : decode cX6_leftIn 35 = .ok (.iload_n 3, 1) := by decide +kernel
theorem dX6_leftIn_36 : decode cX6_leftIn 36 = .ok (.iaload, 1) := by decide +kernel
theorem dX6_leftIn_37 : decode cX6_leftIn 37 = .ok (.isub, 1) := by decide +kernel
theorem dX6_leftIn_38 : decode cX6_leftIn 38 = .ok (.goto 4, 3) := by decide +kernel
theorem dX6_leftIn_41 : decode cX6_leftIn 41 = .ok (.iconst 0, 1) := by decide +kernel
theorem dX6_leftIn_42 : decode cX6_leftIn 42 = .ok (.isub, 1) := by decide +kernel
theorem dX6_leftIn_43 : decode cX6_leftIn 43 = .ok (.istore_n 2, 1) := by decide +kernel
theorem dX6_leftIn_44 : decode cX6_leftIn 44 = .ok (.iinc 3 1, 3) := by decide +kernel
theorem dX6_leftIn_47 : decode cX6_leftIn 47 = .ok (.goto (-41), 3) := by decide +kernel
theorem dX6_leftIn_50 : decode cX6_leftIn 50 = .ok (.iload_n 2, 1) := by decide +kernel
theorem dX6_leftIn_51 : decode cX6_leftIn 51 = .ok (.ireturn, 1) := by decide +kernel
theorem dX6_left_0 : decode cX6_left 0 = .ok (.aload_n 0, 1) := by decide +kernel
theorem dX6_left_1 : decode cX6_left 1 = .ok (.iconst 0, 1) := by decide +kernel
theorem dX6_left_2 : decode cX6_left 2 = .ok (.putfield 80, 3) := by decide +kernel
theorem dX6_left_5 : decode cX6_left 5 = .ok (.iload_n 1, 1) := by decide +kernel
theorem dX6_left_6 : decode cX6_left 6 = .ok (.iconst 0, 1) := by decide +kernel
theorem dX6_left_7 : decode cX6_left 7 = .ok (.iconst 2, 1) := by decide +kernel
theorem dX6_left_8 : decode cX6_left 8 = .ok (.invokestatic 87, 3) := by decide +kernel
theorem dX6_left_11 : decode cX6_left 11 = .ok (.ifCond .eq 11, 3) := by decide +kernel
theorem dX6_left_14 : decode cX6_left 14 = .ok (.aload_n 0, 1) := by decide +kernel
theorem dX6_left_15 : decode cX6_left 15 = .ok (.iload_n 1, 1) := by decide +kernel
theorem dX6_left_16 : decode cX6_left 16 = .ok (.invokevirtual 142, 3) := by decide +kernel
theorem dX6_left_19 : decode cX6_left 19 = .ok (.goto 8, 3) := by decide +kernel
theorem dX6_left_22 : decode cX6_left 22 = .ok (.aload_n 0, 1) := by decide +kernel
theorem dX6_left_23 : decode cX6_left 23 = .ok (.iconst 1, 1) := by decide +kernel
theorem dX6_left_24 : decode cX6_left 24 = .ok (.invokevirtual 95, 3) := by decide +kernel
theorem dX6_left_27 : decode cX6_left 27 = .ok (.ireturn, 1) := by decide +kernel
theorem dX6_bucketOf_0 : decode cX6_bucketOf 0 = .ok (.iload_n 0, 1) := by decide +kernel
theorem dX6_bucketOf_1 : decode cX6_bucketOf 1 = .ok (.sipush 7919, 3) := by decide +kernel
theorem dX6_bucketOf_4 : decode cX6_bucketOf 4 = .ok (.imul, 1) := by decide +kernel
theorem dX6_bucketOf_5 : decode cX6_bucketOf 5 = .ok (.iload_n 1, 1) := by decide +kernel
theorem dX6_bucketOf_6 : decode cX6_bucketOf 6 = .ok (.bipush 31, 2) := by decide +kernel
theorem dX6_bucketOf_8 : decode cX6_bucketOf 8 = .ok (.imul, 1) := by decide +kernel
theorem dX6_bucketOf_9 : decode cX6_bucketOf 9 = .ok (.iadd, 1) := by decide +kernel
theorem dX6_bucketOf_10 : decode cX6_bucketOf 10 = .ok (.bipush 17, 2) := by decide +kernel
theorem dX6_bucketOf_12 : decode cX6_bucketOf 12 = .ok (.iadd, 1) := by decide +kernel
theorem dX6_bucketOf_13 : decode cX6_bucketOf 13 = .ok (.sipush 10007, 3) := by decide +kernel
theorem dX6_bucketOf_16 : decode cX6_bucketOf 16 = .ok (.irem, 1) := by decide +kernel
theorem dX6_bucketOf_17 : decode cX6_bucketOf 17 = .ok (.istore_n 2, 1) := by decide +kernel
theorem dX6_bucketOf_18 : decode cX6_bucketOf 18 = .ok (.iload_n 2, 1) := by decide +kernel
theorem dX6_bucketOf_19 : decode cX6_bucketOf 19 = .ok (.iload_n 2, 1) := by decide +kernel
theorem dX6_bucketOf_20 : decode cX6_bucketOf 20 = .ok (.imul, 1) := by decide +kernel
theorem dX6_bucketOf_21 : decode cX6_bucketOf 21 = .ok (.iload_n 0, 1) := by decide +kernel
theorem dX6_bucketOf_22 : decode cX6_bucketOf 22 = .ok (.iadd, 1) := by decide +kernel
theorem dX6_bucketOf_23 : decode cX6_bucketOf 23 = .ok (.iconst 3, 1) := by decide +kernel
theorem dX6_bucketOf_24 : decode cX6_bucketOf 24 = .ok (.iload_n 1, 1) := by decide +kernel
theorem dX6_bucketOf_25 : decode cX6_bucketOf 25 = .ok (.imul, 1) := by decide +kernel
theorem dX6_bucketOf_26 : decode cX6_bucketOf 26 = .ok (.iadd, 1) := by decide +kernel
theorem dX6_bucketOf_27 : decode cX6_bucketOf 27 = .ok (.sipush 10007, 3) := by decide +kernel
theorem dX6_bucketOf_30 : decode cX6_bucketOf 30 = .ok (.irem, 1) := by decide +kernel
theorem dX6_bucketOf_31 : decode cX6_bucketOf 31 = .ok (.sipush 1000, 3) := by decide +kernel
theorem dX6_bucketOf_34 : decode cX6_bucketOf 34 = .ok (.irem, 1) := by decide +kernel
theorem dX6_bucketOf_35 : decode cX6_bucketOf 35 = .ok (.ireturn, 1) := by decide +kernel
theorem dX6_bucket_0 : decode cX6_bucket 0 = .ok (.aload_n 0, 1) := by decide +kernel
theorem dX6_bucket_1 : decode cX6_bucket 1 = .ok (.iconst 0, 1) := by decide +kernel
theorem dX6_bucket_2 : decode cX6_bucket 2 = .ok (.putfield 80, 3) := by decide +kernel
theorem dX6_bucket_5 : decode cX6_bucket 5 = .ok (.iload_n 1, 1) := by decide +kernel
theorem dX6_bucket_6 : decode cX6_bucket 6 = .ok (.iconst 0, 1) := by decide +kernel
theorem dX6_bucket_7 : decode cX6_bucket 7 = .ok (.sipush 999, 3) := by decide +kernel
theorem dX6_bucket_10 : decode cX6_bucket 10 = .ok (.invokestatic 87, 3) := by decide +kernel
theorem dX6_bucket_13 : decode cX6_bucket 13 = .ok (.ifCond .eq 18, 3) := by decide +kernel
theorem dX6_bucket_16 : decode cX6_bucket 16 = .ok (.iload_n 2, 1) := by decide +kernel
theorem dX6_bucket_17 : decode cX6_bucket 17 = .ok (.invokestatic 145, 3) := by decide +kernel
theorem dX6_bucket_20 : decode cX6_bucket 20 = .ok (.ifCond .eq 11, 3) := by decide +kernel
theorem dX6_bucket_23 : decode cX6_bucket 23 = .ok (.iload_n 1, 1) := by decide +kernel
theorem dX6_bucket_24 : decode cX6_bucket 24 = .ok (.iload_n 2, 1) := by decide +kernel
theorem dX6_bucket_25 : decode cX6_bucket 25 = .ok (.invokestatic 148, 3) := by decide +kernel
theorem dX6_bucket_28 : decode cX6_bucket 28 = .ok (.goto 8, 3) := by decide +kernel
theorem dX6_bucket_31 : decode cX6_bucket 31 = .ok (.aload_n 0, 1) := by decide +kernel
theorem dX6_bucket_32 : decode cX6_bucket 32 = .ok (.iconst 1, 1) := by decide +kernel
theorem dX6_bucket_33 : decode cX6_bucket 33 = .ok (.invokevirtual 95, 3) := by decide +kernel
theorem dX6_bucket_36 : decode cX6_bucket 36 = .ok (.ireturn, 1) := by decide +kernel
theorem dX6_armAt_0 : decode cX6_armAt 0 = .ok (.iconst 0, 1) := by decide +kernel
theorem dX6_armAt_1 : decode cX6_armAt 1 = .ok (.istore_n 3, 1) := by decide +kernel
theorem dX6_armAt_2 : decode cX6_armAt 2 = .ok (.iload_n 3, 1) := by decide +kernel
theorem dX6_armAt_3 : decode cX6_armAt 3 = .ok (.aload_n 0, 1) := by decide +kernel
theorem dX6_armAt_4 : decode cX6_armAt 4 = .ok (.getfield 151, 3) := by decide +kernel
theorem dX6_armAt_7 : decode cX6_armAt 7 = .ok (.if_icmp .ge 31, 3) := by decide +kernel
theorem dX6_armAt_10 : decode cX6_armAt 10 = .ok (.aload_n 0, 1) := by decide +kernel
theorem dX6_armAt_11 : decode cX6_armAt 11 = .ok (.getfield 65, 3) := by decide +kernel
theorem dX6_armAt_14 : decode cX6_armAt 14 = .ok (.iload_n 3, 1) := by decide +kernel
theorem dX6_armAt_15 : decode cX6_armAt 15 = .ok (.iaload, 1) := by decide +kernel
theorem dX6_armAt_16 : decode cX6_armAt 16 = .ok (.iload_n 1, 1) := by decide +kernel
theorem dX6_armAt_17 : decode cX6_armAt 17 = .ok (.if_icmp .ne 15, 3) := by decide +kernel
theorem dX6_armAt_20 : decode cX6_armAt 20 = .ok (.aload_n 0, 1) := by decide +kernel
theorem dX6_armAt_21 : decode cX6_armAt 21 = .ok (.getfield 68, 3) := by decide +kernel
theorem dX6_armAt_24 : decode cX6_armAt 24 = .ok (.iload_n 3, 1) := by decide +kernel
theorem dX6_armAt_25 : decode cX6_armAt 25 = .ok (.iaload, 1) := by decide +kernel
theorem dX6_armAt_26 : decode cX6_armAt 26 = .ok (.iload_n 2, 1) := by decide +kernel
theorem dX6_armAt_27 : decode cX6_armAt 27 = .ok (.if_icmp .ne 5, 3) := by decide +kernel
theorem dX6_armAt_30 : decode cX6_armAt 30 = .ok (.iload_n 3, 1) := by decide +kernel
theorem dX6_armAt_31 : decode cX6_armAt 31 = .ok (.ireturn, 1) := by decide +kernel
theorem dX6_armAt_32 : decode cX6_armAt 32 = .ok (.iinc 3 1, 3) := by decide +kernel
theorem dX6_armAt_35 : decode cX6_armAt 35 = .ok (.goto (-33), 3) := by decide +kernel
theorem dX6_armAt_38 : decode cX6_armAt 38 = .ok (.iconst (-1), 1) := by decide +kernel
theorem dX6_armAt_39 : decode cX6_armAt 39 = .ok (.ireturn, 1) := by decide +kernel
theorem dX6_holdsNow_0 : decode cX6_holdsNow 0 = .ok (.iload_n 1, 1) := by decide +kernel
theorem dX6_holdsNow_1 : decode cX6_holdsNow 1 = .ok (.iconst 5, 1) := by decide +kernel
theorem dX6_holdsNow_2 : decode cX6_holdsNow 2 = .ok (.imul, 1) := by decide +kernel
theorem dX6_holdsNow_3 : decode cX6_holdsNow 3 = .ok (.istore 4, 2) := by decide +kernel
theorem dX6_holdsNow_5 : decode cX6_holdsNow 5 = .ok (.iload 4, 2) := by decide +kernel
theorem dX6_holdsNow_7 : decode cX6_holdsNow 7 = .ok (.iload_n 1, 1) := by decide +kernel
theorem dX6_holdsNow_8 : decode cX6_holdsNow 8 = .ok (.iconst 5, 1) := by decide +kernel
theorem dX6_holdsNow_9 : decode cX6_holdsNow 9 = .ok (.imul, 1) := by decide +kernel
theorem dX6_holdsNow_10 : decode cX6_holdsNow 10 = .ok (.aload_n 0, 1) := by decide +kernel
theorem dX6_holdsNow_11 : decode cX6_holdsNow 11 = .ok (.getfield 50, 3) := by decide +kernel
theorem dX6_holdsNow_14 : decode cX6_holdsNow 14 = .ok (.iload_n 1, 1) := by decide +kernel
theorem dX6_holdsNow_15 : decode cX6_holdsNow 15 = .ok (.iaload, 1) := by decide +kernel
theorem dX6_holdsNow_16 : decode cX6_holdsNow 16 = .ok (.iadd, 1) := by decide +kernel
theorem dX6_holdsNow_17 : decode cX6_holdsNow 17 = .ok (.if_icmp .ge 97, 3) := by decide +kernel
theorem dX6_holdsNow_20 : decode cX6_holdsNow 20 = .ok (.aload_n 0, 1) := by decide +kernel
theorem dX6_holdsNow_21 : decode cX6_holdsNow 21 = .ok (.getfield 53, 3) := by decide +kernel
theorem dX6_holdsNow_24 : decode cX6_holdsNow 24 = .ok (.iload 4, 2) := by decide +kernel
theorem dX6_holdsNow_26 : decode cX6_holdsNow 26 = .ok (.iaload, 1) := by decide +kernel
theorem dX6_holdsNow_27 : decode cX6_holdsNow 27 = .ok (.ifCond .ne 7, 3) := by decide +kernel
theorem dX6_holdsNow_30 : decode cX6_holdsNow 30 = .ok (.iload_n 2, 1) := by decide +kernel
theorem dX6_holdsNow_31 : decode cX6_holdsNow 31 = .ok (.goto 4, 3) := by decide +kernel
theorem dX6_holdsNow_34 : decode cX6_holdsNow 34 = .ok (.iload_n 3, 1) := by decide +kernel
theorem dX6_holdsNow_35 : decode cX6_holdsNow 35 = .ok (.istore 5, 2) := by decide +kernel
theorem dX6_holdsNow_37 : decode cX6_holdsNow 37 = .ok (.aload_n 0, 1) := by decide +kernel
theorem dX6_holdsNow_38 : decode cX6_holdsNow 38 = .ok (.getfield 56, 3) := by decide +kernel
theorem dX6_holdsNow_41 : decode cX6_holdsNow 41 = .ok (.iload 4, 2) := by decide +kernel
theorem dX6_holdsNow_43 : decode cX6_holdsNow 43 = .ok (.iaload, 1) := by decide +kernel
theorem dX6_holdsNow_44 : decode cX6_holdsNow 44 = .ok (.iconst 1, 1) := by decide +kernel
theorem dX6_holdsNow_45 : decode cX6_holdsNow 45 = .ok (.if_icmp .ne 18, 3) := by decide +kernel
theorem dX6_holdsNow_48 : decode cX6_holdsNow 48 = .ok (.iload 5, 2) := by decide +kernel
theorem dX6_holdsNow_50 : decode cX6_holdsNow 50 = .ok (.aload_n 0, 1) := by decide +kernel
theorem dX6_holdsNow_51 : decode cX6_holdsNow 51 = .ok (.getfield 59, 3) := by decide +kernel
theorem dX6_holdsNow_54 : decode cX6_holdsNow 54 = .ok (.iload 4, 2) := by decide +kernel
theorem dX6_holdsNow_56 : decode cX6_holdsNow 56 = .ok (.iaload, 1) := by decide +kernel
theorem dX6_holdsNow_57 : decode cX6_holdsNow 57 = .ok (.if_icmp .ge 51, 3) := by decide +kernel
theorem dX6_holdsNow_60 : decode cX6_holdsNow 60 = .ok (.goto 41, 3) := by decide +kernel
theorem dX6_holdsNow_63 : decode cX6_holdsNow 63 = .ok (.aload_n 0, 1) := by decide +kernel
theorem dX6_holdsNow_64 : decode cX6_holdsNow 64 = .ok (.getfield 56, 3) := by decide +kernel
theorem dX6_holdsNow_67 : decode cX6_holdsNow 67 = .ok (.iload 4, 2) := by decide +kernel
theorem dX6_holdsNow_69 : decode cX6_holdsNow 69 = .ok (.iaload, 1) := by decide +kernel
theorem dX6_holdsNow_70 : decode cX6_holdsNow 70 = .ok (.iconst 2, 1) := by decide +kernel
theorem dX6_holdsNow_71 : decode cX6_holdsNow 71 = .ok (.if_icmp .ne 18, 3) := by decide +kernel
theorem dX6_holdsNow_74 : decode cX6_holdsNow 74 = .ok (.iload 5, 2) := by decide +kernel
theorem dX6_holdsNow_76 : decode cX6_holdsNow 76 = .ok (.aload_n 0, 1) := by decide +kernel
theorem dX6_holdsNow_77 : decode cX6_holdsNow 77 = .ok (.getfield 59, 3) := by decide +kernel
theorem dX6_holdsNow_80 : decode cX6_holdsNow 80 = .ok (.iload 4, 2) := by decide +kernel
theorem dX6_holdsNow_82 : decode cX6_holdsNow 82 = .ok (.iaload, 1) := by decide +kernel
theorem dX6_holdsNow_83 : decode cX6_holdsNow 83 = .ok (.if_icmp .ne 25, 3) := by decide +kernel
theorem dX6_holdsNow_86 : decode cX6_holdsNow 86 = .ok (.goto 15, 3) := by decide +kernel
theorem dX6_holdsNow_89 : decode cX6_holdsNow 89 = .ok (.iload 5, 2) := by decide +kernel
theorem dX6_holdsNow_91 : decode cX6_holdsNow 91 = .ok (.aload_n 0, 1) := by decide +kernel
theorem dX6_holdsNow_92 : decode cX6_holdsNow 92 = .ok (.getfield 59, 3) := by decide +kernel
theorem dX6_holdsNow_95 : decode cX6_holdsNow 95 = .ok (.iload 4, 2) := by decide +kernel
theorem dX6_holdsNow_97 : decode cX6_holdsNow 97 = .ok (.iaload, 1) := by decide +kernel
theorem dX6_holdsNow_98 : decode cX6_holdsNow 98 = .ok (.if_icmp .le 10, 3) := by decide +kernel
theorem dX6_holdsNow_101 : decode cX6_holdsNow 101 = .ok (.iload 4, 2) := by decide +kernel
theorem dX6_holdsNow_103 : decode cX6_holdsNow 103 = .ok (.iload_n 1, 1) := by decide +kernel
theorem dX6_holdsNow_104 : decode cX6_holdsNow 104 = .ok (.iconst 5, 1) := by decide +kernel
theorem dX6_holdsNow_105 : decode cX6_holdsNow 105 = .ok (.imul, 1) := by decide +kernel
theorem dX6_holdsNow_106 : decode cX6_holdsNow 106 = .ok (.isub, 1) := by decide +kernel
theorem dX6_holdsNow_107 : decode cX6_holdsNow 107 = .ok (.ireturn, 1) := by decide +kernel
theorem dX6_holdsNow_108 : decode cX6_holdsNow 108 = .ok (.iinc 4 1, 3) := by decide +kernel
theorem dX6_holdsNow_111 : decode cX6_holdsNow 111 = .ok (.goto (-106), 3) := by decide +kernel
theorem dX6_holdsNow_114 : decode cX6_holdsNow 114 = .ok (.iconst (-1), 1) := by decide +kernel
theorem dX6_holdsNow_115 : decode cX6_holdsNow 115 = .ok (.ireturn, 1) := by decide +kernel
theorem dX6_split_0 : decode cX6_split 0 = .ok (.aload_n 0, 1) := by decide +kernel
theorem dX6_split_1 : decode cX6_split 1 = .ok (.getfield 9, 3) := by decide +kernel
theorem dX6_split_4 : decode cX6_split 4 = .ok (.iload_n 1, 1) := by decide +kernel
theorem dX6_split_5 : decode cX6_split 5 = .ok (.iaload, 1) := by decide +kernel
theorem dX6_split_6 : decode cX6_split 6 = .ok (.iload_n 2, 1) := by decide +kernel
theorem dX6_split_7 : decode cX6_split 7 = .ok (.invokestatic 148, 3) := by decide +kernel
theorem dX6_split_10 : decode cX6_split 10 = .ok (.istore_n 3, 1) := by decide +kernel
theorem dX6_split_11 : decode cX6_split 11 = .ok (.iconst 0, 1) := by decide +kernel
theorem dX6_split_12 : decode cX6_split 12 = .ok (.istore 4, 2) := by decide +kernel
theorem dX6_split_14 : decode cX6_split 14 = .ok (.aload_n 0, 1) := by decide +kernel
theorem dX6_split_15 : decode cX6_split 15 = .ok (.getfield 16, 3) := by decide +kernel
theorem dX6_split_18 : decode cX6_split 18 = .ok (.iload_n 1, 1) := by decide +kernel
theorem dX6_split_19 : decode cX6_split 19 = .ok (.iconst 4, 1) := by decide +kernel
theorem dX6_split_20 : decode cX6_split 20 = .ok (.imul, 1) := by decide +kernel
theorem dX6_split_21 : decode cX6_split 21 = .ok (.iaload, 1) := by decide +kernel
theorem dX6_split_22 : decode cX6_split 22 = .ok (.istore 5, 2) := by decide +kernel
theorem dX6_split_24 : decode cX6_split 24 = .ok (.iload_n 3, 1) := by decide +kernel
theorem dX6_split_25 : decode cX6_split 25 = .ok (.iload 5, 2) := by decide +kernel
theorem dX6_split_27 : decode cX6_split 27 = .ok (.if_icmp .lt 25, 3) := by decide +kernel
theorem dX6_split_30 : decode cX6_split 30 = .ok (.iinc 4 1, 3) := by decide +kernel
theorem dX6_split_33 : decode cX6_split 33 = .ok (.iload 5, 2) := by decide +kernel
theorem dX6_split_35 : decode cX6_split 35 = .ok (.aload_n 0, 1) := by decide +kernel
theorem dX6_split_36 : decode cX6_split 36 = .ok (.getfield 16, 3) := by decide +kernel
theorem dX6_split_39 : decode cX6_split 39 = .ok (.iload_n 1, 1) := by decide +kernel
theorem dX6_split_40 : decode cX6_split 40 = .ok (.iconst 4, 1) := by decide +kernel
theorem dX6_split_41 : decode cX6_split 41 = .ok (.imul, 1) := by decide +kernel
theorem dX6_split_42 : decode cX6_split 42 = .ok (.iload 4, 2) := by decide +kernel
theorem dX6_split_44 : decode cX6_split 44 = .ok (.iadd, 1) := by decide +kernel
theorem dX6_split_45 : decode cX6_split 45 = .ok (.iaload, 1) := by decide +kernel
theorem dX6_split_46 : decode cX6_split 46 = .ok (.iadd, 1) := by decide +kernel
theorem dX6_split_47 : decode cX6_split 47 = .ok (.istore 5, 2) := by decide +kernel
theorem dX6_split_49 : decode cX6_split 49 = .ok (.goto (-25), 3) := by decide +kernel
theorem dX6_split_52 : decode cX6_split 52 = .ok (.iload 4, 2) := by decide +kernel
theorem dX6_split_54 : decode cX6_split 54 = .ok (.ireturn, 1) := by decide +kernel
theorem dX6_getsNow_0 : decode cX6_getsNow 0 = .ok (.aload_n 0, 1) := by decide +kernel
theorem dX6_getsNow_1 : decode cX6_getsNow 1 = .ok (.getfield 32, 3) := by decide +kernel
theorem dX6_getsNow_4 : decode cX6_getsNow 4 = .ok (.iload_n 1, 1) := by decide +kernel
theorem dX6_getsNow_5 : decode cX6_getsNow 5 = .ok (.baload, 1) := by decide +kernel
theorem dX6_getsNow_6 : decode cX6_getsNow 6 = .ok (.ifCond .eq 40, 3) := by decide +kernel
theorem dX6_getsNow_9 : decode cX6_getsNow 9 = .ok (.aload_n 0, 1) := by decide +kernel
theorem dX6_getsNow_10 : decode cX6_getsNow 10 = .ok (.getfield 44, 3) := by decide +kernel
theorem dX6_getsNow_13 : decode cX6_getsNow 13 = .ok (.iload_n 1, 1) := by decide +kernel
theorem dX6_getsNow_14 : decode cX6_getsNow 14 = .ok (.iaload, 1) := by decide +kernel
theorem dX6_getsNow_15 : decode cX6_getsNow 15 = .ok (.iconst (-1), 1) := by decide +kernel
theorem dX6_getsNow_16 : decode cX6_getsNow 16 = .ok (.if_icmp .eq 30, 3) := by decide +kernel
theorem dX6_getsNow_19 : decode cX6_getsNow 19 = .ok (.aload_n 0, 1) := by decide +kernel
theorem dX6_getsNow_20 : decode cX6_getsNow 20 = .ok (.aload_n 0, 1) := by decide +kernel
theorem dX6_getsNow_21 : decode cX6_getsNow 21 = .ok (.getfield 44, 3) := by decide +kernel
theorem dX6_getsNow_24 : decode cX6_getsNow 24 = .ok (.iload_n 1, 1) := by decide +kernel
theorem dX6_getsNow_25 : decode cX6_getsNow 25 = .ok (.iaload, 1) := by decide +kernel
theorem dX6_getsNow_26 : decode cX6_getsNow 26 = .ok (.iload_n 2, 1) := by decide +kernel
theorem dX6_getsNow_27 : decode cX6_getsNow 27 = .ok (.iload_n 3, 1) := by decide +kernel
theorem dX6_getsNow_28 : decode cX6_getsNow 28 = .ok (.iload 4, 2) := by decide +kernel
theorem dX6_getsNow_30 : decode cX6_getsNow 30 = .ok (.invokevirtual 154, 3) := by decide +kernel
theorem dX6_getsNow_33 : decode cX6_getsNow 33 = .ok (.aload_n 0, 1) := by decide +kernel
theorem dX6_getsNow_34 : decode cX6_getsNow 34 = .ok (.getfield 47, 3) := by decide +kernel
theorem dX6_getsNow_37 : decode cX6_getsNow 37 = .ok (.iload_n 1, 1) := by decide +kernel
theorem dX6_getsNow_38 : decode cX6_getsNow 38 = .ok (.iaload, 1) := by decide +kernel
theorem dX6_getsNow_39 : decode cX6_getsNow 39 = .ok (.if_icmp .eq 7, 3) := by decide +kernel
theorem dX6_getsNow_42 : decode cX6_getsNow 42 = .ok (.iconst 1, 1) := by decide +kernel
theorem dX6_getsNow_43 : decode cX6_getsNow 43 = .ok (.goto 4, 3) := by decide +kernel
theorem dX6_getsNow_46 : decode cX6_getsNow 46 = .ok (.iconst 0, 1) := by decide +kernel
theorem dX6_getsNow_47 : decode cX6_getsNow 47 = .ok (.istore 6, 2) := by decide +kernel
theorem dX6_getsNow_49 : decode cX6_getsNow 49 = .ok (.aload_n 0, 1) := by decide +kernel
theorem dX6_getsNow_50 : decode cX6_getsNow 50 = .ok (.iload_n 1, 1) := by decide +kernel
theorem dX6_getsNow_51 : decode cX6_getsNow 51 = .ok (.iload_n 2, 1) := by decide +kernel
theorem dX6_getsNow_52 : decode cX6_getsNow 52 = .ok (.invokevirtual 158, 3) := by decide +kernel
theorem dX6_getsNow_55 : decode cX6_getsNow 55 = .ok (.istore 7, 2) := by decide +kernel
theorem dX6_getsNow_57 : decode cX6_getsNow 57 = .ok (.aload_n 0, 1) := by decide +kernel
theorem dX6_getsNow_58 : decode cX6_getsNow 58 = .ok (.iload_n 1, 1) := by decide +kernel
theorem dX6_getsNow_59 : decode cX6_getsNow 59 = .ok (.iload_n 3, 1) := by decide +kernel
theorem dX6_getsNow_60 : decode cX6_getsNow 60 = .ok (.iload 4, 2) := by decide +kernel
theorem dX6_getsNow_62 : decode cX6_getsNow 62 = .ok (.invokevirtual 161, 3) := by decide +kernel
theorem dX6_getsNow_65 : decode cX6_getsNow 65 = .ok (.istore 8, 2) := by decide +kernel
theorem dX6_getsNow_67 : decode cX6_getsNow 67 = .ok (.aload_n 0, 1) := by decide +kernel
theorem dX6_getsNow_68 : decode cX6_getsNow 68 = .ok (.bipush 8, 2) := by decide +kernel
theorem dX6_getsNow_70 : decode cX6_getsNow 70 = .ok (.putfield 165, 3) := by decide +kernel
theorem dX6_getsNow_73 : decode cX6_getsNow 73 = .ok (.aload_n 0, 1) := by decide +kernel
theorem dX6_getsNow_74 : decode cX6_getsNow 74 = .ok (.getfield 32, 3) := by decide +kernel
theorem dX6_getsNow_77 : decode cX6_getsNow 77 = .ok (.iload_n 1, 1) := by decide +kernel
theorem dX6_getsNow_78 : decode cX6_getsNow 78 = .ok (.baload, 1) := by decide +kernel
theorem dX6_getsNow_79 : decode cX6_getsNow 79 = .ok (.ifCond .ne 11, 3) := by decide +kernel
theorem dX6_getsNow_82 : decode cX6_getsNow 82 = .ok (.aload_n 0, 1) := by decide +kernel
theorem dX6_getsNow_83 : decode cX6_getsNow 83 = .ok (.iconst 0, 1) := by decide +kernel
theorem dX6_getsNow_84 : decode cX6_getsNow 84 = .ok (.putfield 165, 3) := by decide +kernel
theorem dX6_getsNow_87 : decode cX6_getsNow 87 = .ok (.goto 203, 3) := by decide +kernel
theorem dX6_getsNow_90 : decode cX6_getsNow 90 = .ok (.iload 6, 2) := by decide +kernel
theorem dX6_getsNow_92 : decode cX6_getsNow 92 = .ok (.ifCond .eq 11, 3) := by decide +kernel
theorem dX6_getsNow_95 : decode cX6_getsNow 95 = .ok (.aload_n 0, 1) := by decide +kernel
theorem dX6_getsNow_96 : decode cX6_getsNow 96 = .ok (.iconst 1, 1) := by decide +kernel
theorem dX6_getsNow_97 : decode cX6_getsNow 97 = .ok (.putfield 165, 3) := by decide +kernel
theorem dX6_getsNow_100 : decode cX6_getsNow 100 = .ok (.goto 190, 3) := by decide +kernel
theorem dX6_getsNow_103 : decode cX6_getsNow 103 = .ok (.aload_n 0, 1) := by decide +kernel
theorem dX6_getsNow_104 : decode cX6_getsNow 104 = .ok (.getfield 28, 3) := by decide +kernel
theorem dX6_getsNow_107 : decode cX6_getsNow 107 = .ok (.iload_n 1, 1) := by decide +kernel
theorem dX6_getsNow_108 : decode cX6_getsNow 108 = .ok (.baload, 1) := by decide +kernel
theorem dX6_getsNow_109 : decode cX6_getsNow 109 = .ok (.ifCond .eq 22, 3) := by decide +kernel
theorem dX6_getsNow_112 : decode cX6_getsNow 112 = .ok (.iload 7, 2) := by decide +kernel
theorem dX6_getsNow_114 : decode cX6_getsNow 114 = .ok (.iconst (-1), 1) := by decide +kernel
theorem dX6_getsNow_115 : decode cX6_getsNow 115 = .ok (.if_icmp .eq 16, 3) := by decide +kernel
theorem dX6_getsNow_118 : decode cX6_getsNow 118 = .ok (.aload_n 0, 1) := by decide +kernel
theorem dX6_getsNow_119 : decode cX6_getsNow 119 = .ok (.iconst 2, 1) := by decide +kernel
theorem dX6_getsNow_120 : decode cX6_getsNow 120 = .ok (.putfield 165, 3) := by decide +kernel
theorem dX6_getsNow_123 : decode cX6_getsNow 123 = .ok (.aload_n 0, 1) := by decide +kernel
theorem dX6_getsNow_124 : decode cX6_getsNow 124 = .ok (.getfield 71, 3) := by decide +kernel
theorem dX6_getsNow_127 : decode cX6_getsNow 127 = .ok (.iload 7, 2) := by decide +kernel
theorem dX6_getsNow_129 : decode cX6_getsNow 129 = .ok (.iaload, 1) := by decide +kernel
theorem dX6_getsNow_130 : decode cX6_getsNow 130 = .ok (.ireturn, 1) := by decide +kernel
theorem dX6_getsNow_131 : decode cX6_getsNow 131 = .ok (.iload 8, 2) := by decide +kernel
theorem dX6_getsNow_133 : decode cX6_getsNow 133 = .ok (.iconst (-1), 1) := by decide +kernel
theorem dX6_getsNow_134 : decode cX6_getsNow 134 = .ok (.if_icmp .eq 35, 3) := by decide +kernel
theorem dX6_getsNow_137 : decode cX6_getsNow 137 = .ok (.aload_n 0, 1) := by decide +kernel
theorem dX6_getsNow_138 : decode cX6_getsNow 138 = .ok (.getfield 62, 3) := by decide +kernel
theorem dX6_getsNow_141 : decode cX6_getsNow 141 = .ok (.iload_n 1, 1) := by decide +kernel
theorem dX6_getsNow_142 : decode cX6_getsNow 142 = .ok (.iconst 5, 1) := by decide +kernel
theorem dX6_getsNow_143 : decode cX6_getsNow 143 = .ok (.imul, 1) := by decide +kernel
theorem dX6_getsNow_144 : decode cX6_getsNow 144 = .ok (.iload 8, 2) := by decide +kernel
theorem dX6_getsNow_146 : decode cX6_getsNow 146 = .ok (.iadd, 1) := by decide +kernel
theorem dX6_getsNow_147 : decode cX6_getsNow 147 = .ok (.iaload, 1) := by decide +kernel
theorem dX6_getsNow_148 : decode cX6_getsNow 148 = .ok (.iconst (-1), 1) := by decide +kernel
theorem dX6_getsNow_149 : decode cX6_getsNow 149 = .ok (.if_icmp .eq 20, 3) := by decide +kernel
theorem dX6_getsNow_152 : decode cX6_getsNow 152 = .ok (.aload_n 0, 1) := by decide +kernel
theorem dX6_getsNow_153 : decode cX6_getsNow 153 = .ok (.iconst 3, 1) := by decide +kernel
theorem dX6_getsNow_154 : decode cX6_getsNow 154 = .ok (.putfield 165, 3) := by decide +kernel
theorem dX6_getsNow_157 : decode cX6_getsNow 157 = .ok (.aload_n 0, 1) := by decide +kernel
theorem dX6_getsNow_158 : decode cX6_getsNow 158 = .ok (.getfield 62, 3) := by decide +kernel
theorem dX6_getsNow_161 : decode cX6_getsNow 161 = .ok (.iload_n 1, 1) := by decide +kernel
theorem dX6_getsNow_162 : decode cX6_getsNow 162 = .ok (.iconst 5, 1) := by decide +kernel
theorem dX6_getsNow_163 : decode cX6_getsNow 163 = .ok (.imul, 1) := by decide +kernel
theorem dX6_getsNow_164 : decode cX6_getsNow 164 = .ok (.iload 8, 2) := by decide +kernel
theorem dX6_getsNow_166 : decode cX6_getsNow 166 = .ok (.iadd, 1) := by decide +kernel
theorem dX6_getsNow_167 : decode cX6_getsNow 167 = .ok (.iaload, 1) := by decide +kernel
theorem dX6_getsNow_168 : decode cX6_getsNow 168 = .ok (.ireturn, 1) := by decide +kernel
theorem dX6_getsNow_169 : decode cX6_getsNow 169 = .ok (.sipush 999, 3) := by decide +kernel
theorem dX6_getsNow_172 : decode cX6_getsNow 172 = .ok (.iload_n 2, 1) := by decide +kernel
theorem dX6_getsNow_173 : decode cX6_getsNow 173 = .ok (.invokestatic 148, 3) := by decide +kernel
theorem dX6_getsNow_176 : decode cX6_getsNow 176 = .ok (.aload_n 0, 1) := by decide +kernel
theorem dX6_getsNow_177 : decode cX6_getsNow 177 = .ok (.getfield 136, 3) := by decide +kernel
theorem dX6_getsNow_180 : decode cX6_getsNow 180 = .ok (.if_icmp .ge 11, 3) := by decide +kernel
theorem dX6_getsNow_183 : decode cX6_getsNow 183 = .ok (.aload_n 0, 1) := by decide +kernel
theorem dX6_getsNow_184 : decode cX6_getsNow 184 = .ok (.iconst 4, 1) := by decide +kernel
theorem dX6_getsNow_185 : decode cX6_getsNow 185 = .ok (.putfield 165, 3) := by decide +kernel
theorem dX6_getsNow_188 : decode cX6_getsNow 188 = .ok (.goto 102, 3) := by decide +kernel
theorem dX6_getsNow_191 : decode cX6_getsNow 191 = .ok (.aload_n 0, 1) := by decide +kernel
theorem dX6_getsNow_192 : decode cX6_getsNow 192 = .ok (.getfield 35, 3) := by decide +kernel
theorem dX6_getsNow_195 : decode cX6_getsNow 195 = .ok (.iload_n 1, 1) := by decide +kernel
theorem dX6_getsNow_196 : decode cX6_getsNow 196 = .ok (.iaload, 1) := by decide +kernel
theorem dX6_getsNow_197 : decode cX6_getsNow 197 = .ok (.iconst (-1), 1) := by decide +kernel
theorem dX6_getsNow_198 : decode cX6_getsNow 198 = .ok (.if_icmp .eq 45, 3) := by decide +kernel
theorem dX6_getsNow_201 : decode cX6_getsNow 201 = .ok (.sipush 500, 3) := by decide +kernel
theorem dX6_getsNow_204 : decode cX6_getsNow 204 = .ok (.aload_n 0, 1) := by decide +kernel
theorem dX6_getsNow_205 : decode cX6_getsNow 205 = .ok (.getfield 35, 3) := by decide +kernel
theorem dX6_getsNow_208 : decode cX6_getsNow 208 = .ok (.iload_n 1, 1) := by decide +kernel
theorem dX6_getsNow_209 : decode cX6_getsNow 209 = .ok (.iaload, 1) := by decide +kernel
theorem dX6_getsNow_210 : decode cX6_getsNow 210 = .ok (.iadd, 1) := by decide +kernel
theorem dX6_getsNow_211 : decode cX6_getsNow 211 = .ok (.iload_n 2, 1) := by decide +kernel
theorem dX6_getsNow_212 : decode cX6_getsNow 212 = .ok (.invokestatic 148, 3) := by decide +kernel
theorem dX6_getsNow_215 : decode cX6_getsNow 215 = .ok (.aload_n 0, 1) := by decide +kernel
theorem dX6_getsNow_216 : decode cX6_getsNow 216 = .ok (.getfield 38, 3) := by decide +kernel
theorem dX6_getsNow_219 : decode cX6_getsNow 219 = .ok (.iload_n 1, 1) := by decide +kernel
theorem dX6_getsNow_220 : decode cX6_getsNow 220 = .ok (.iaload, 1) := by decide +kernel
theorem dX6_getsNow_221 : decode cX6_getsNow 221 = .ok (.aload_n 0, 1) := by decide +kernel
theorem dX6_getsNow_222 : decode cX6_getsNow 222 = .ok (.getfield 41, 3) := by decide +kernel
theorem dX6_getsNow_225 : decode cX6_getsNow 225 = .ok (.iload_n 1, 1) := by decide +kernel
theorem dX6_getsNow_226 : decode cX6_getsNow 226 = .ok (.iaload, 1) := by decide +kernel
theorem dX6_getsNow_227 : decode cX6_getsNow 227 = .ok (.iconst 1, 1) := by decide +kernel
theorem dX6_getsNow_228 : decode cX6_getsNow 228 = .ok (.isub, 1) := by decide +kernel
theorem dX6_getsNow_229 : decode cX6_getsNow 229 = .ok (.invokestatic 87, 3) := by decide +kernel
theorem dX6_getsNow_232 : decode cX6_getsNow 232 = .ok (.ifCond .ne 11, 3) := by decide +kernel
theorem dX6_getsNow_235 : decode cX6_getsNow 235 = .ok (.aload_n 0, 1) := by decide +kernel
theorem dX6_getsNow_236 : decode cX6_getsNow 236 = .ok (.iconst 5, 1) := by decide +kernel
theorem dX6_getsNow_237 : decode cX6_getsNow 237 = .ok (.putfield 165, 3) := by decide +kernel
theorem dX6_getsNow_240 : decode cX6_getsNow 240 = .ok (.goto 50, 3) := by decide +kernel
theorem dX6_getsNow_243 : decode cX6_getsNow 243 = .ok (.aload_n 0, 1) := by decide +kernel
theorem dX6_getsNow_244 : decode cX6_getsNow 244 = .ok (.getfield 9, 3) := by decide +kernel
theorem dX6_getsNow_247 : decode cX6_getsNow 247 = .ok (.iload_n 1, 1) := by decide +kernel
theorem dX6_getsNow_248 : decode cX6_getsNow 248 = .ok (.iaload, 1) := by decide +kernel
theorem dX6_getsNow_249 : decode cX6_getsNow 249 = .ok (.iconst 1, 1) := by decide +kernel
theorem dX6_getsNow_250 : decode cX6_getsNow 250 = .ok (.iadd, 1) := by decide +kernel
theorem dX6_getsNow_251 : decode cX6_getsNow 251 = .ok (.iload_n 2, 1) := by decide +kernel
theorem dX6_getsNow_252 : decode cX6_getsNow 252 = .ok (.invokestatic 148, 3) := by decide +kernel
theorem dX6_getsNow_255 : decode cX6_getsNow 255 = .ok (.iload 5, 2) := by decide +kernel
theorem dX6_getsNow_257 : decode cX6_getsNow 257 = .ok (.if_icmp .lt 12, 3) := by decide +kernel
theorem dX6_getsNow_260 : decode cX6_getsNow 260 = .ok (.aload_n 0, 1) := by decide +kernel
theorem dX6_getsNow_261 : decode cX6_getsNow 261 = .ok (.bipush 6, 2) := by decide +kernel
theorem dX6_getsNow_263 : decode cX6_getsNow 263 = .ok (.putfield 165, 3) := by decide +kernel
theorem dX6_getsNow_266 : decode cX6_getsNow 266 = .ok (.goto 24, 3) := by decide +kernel
theorem dX6_getsNow_269 : decode cX6_getsNow 269 = .ok (.aload_n 0, 1) := by decide +kernel
theorem dX6_getsNow_270 : decode cX6_getsNow 270 = .ok (.getfield 50, 3) := by decide +kernel
theorem dX6_getsNow_273 : decode cX6_getsNow 273 = .ok (.iload_n 1, 1) := by decide +kernel
theorem dX6_getsNow_274 : decode cX6_getsNow 274 = .ok (.iaload, 1) := by decide +kernel
theorem dX6_getsNow_275 : decode cX6_getsNow 275 = .ok (.ifCond .le 15, 3) := by decide +kernel
theorem dX6_getsNow_278 : decode cX6_getsNow 278 = .ok (.iload 8, 2) := by decide +kernel
theorem dX6_getsNow_280 : decode cX6_getsNow 280 = .ok (.iconst (-1), 1) := by decide +kernel
theorem dX6_getsNow_281 : decode cX6_getsNow 281 = .ok (.if_icmp .ne 9, 3) := by decide +kernel
theorem dX6_getsNow_284 : decode cX6_getsNow 284 = .ok (.aload_n 0, 1) := by decide +kernel
theorem dX6_getsNow_285 : decode cX6_getsNow 285 = .ok (.bipush 7, 2) := by decide +kernel
theorem dX6_getsNow_287 : decode cX6_getsNow 287 = .ok (.putfield 165, 3) := by decide +kernel
theorem dX6_getsNow_290 : decode cX6_getsNow 290 = .ok (.aload_n 0, 1) := by decide +kernel
theorem dX6_getsNow_291 : decode cX6_getsNow 291 = .ok (.getfield 165, 3) := by decide +kernel
theorem dX6_getsNow_294 : decode cX6_getsNow 294 = .ok (.bipush 8, 2) := by decide +kernel
theorem dX6_getsNow_296 : decode cX6_getsNow 296 = .ok (.if_icmp .ne 12, 3) := by decide +kernel
theorem dX6_getsNow_299 : decode cX6_getsNow 299 = .ok (.aload_n 0, 1) := by decide +kernel
theorem dX6_getsNow_300 : decode cX6_getsNow 300 = .ok (.iload_n 1, 1) := by decide +kernel
theorem dX6_getsNow_301 : decode cX6_getsNow 301 = .ok (.iload_n 2, 1) := by decide +kernel
theorem dX6_getsNow_302 : decode cX6_getsNow 302 = .ok (.invokevirtual 168, 3) := by decide +kernel
theorem dX6_getsNow_305 : decode cX6_getsNow 305 = .ok (.goto 4, 3) := by decide +kernel
theorem dX6_getsNow_308 : decode cX6_getsNow 308 = .ok (.iconst 0, 1) := by decide +kernel
theorem dX6_getsNow_309 : decode cX6_getsNow 309 = .ok (.ireturn, 1) := by decide +kernel
theorem dX6_getsOf_0 : decode cX6_getsOf 0 = .ok (.aload_n 0, 1) := by decide +kernel
theorem dX6_getsOf_1 : decode cX6_getsOf 1 = .ok (.iload_n 1, 1) := by decide +kernel
theorem dX6_getsOf_2 : decode cX6_getsOf 2 = .ok (.iload_n 2, 1) := by decide +kernel
theorem dX6_getsOf_3 : decode cX6_getsOf 3 = .ok (.iload_n 3, 1) := by decide +kernel
theorem dX6_getsOf_4 : decode cX6_getsOf 4 = .ok (.iload 4, 2) := by decide +kernel
theorem dX6_getsOf_6 : decode cX6_getsOf 6 = .ok (.aload_n 0, 1) := by decide +kernel
theorem dX6_getsOf_7 : decode cX6_getsOf 7 = .ok (.iload_n 1, 1) := by decide +kernel
theorem dX6_getsOf_8 : decode cX6_getsOf 8 = .ok (.iconst 0, 1) := by decide +kernel
theorem dX6_getsOf_9 : decode cX6_getsOf 9 = .ok (.invokevirtual 117, 3) := by decide +kernel
theorem dX6_getsOf_12 : decode cX6_getsOf 12 = .ok (.invokevirtual 171, 3) := by decide +kernel
theorem dX6_getsOf_15 : decode cX6_getsOf 15 = .ok (.ireturn, 1) := by decide +kernel
theorem dX6_isAsked_0 : decode cX6_isAsked 0 = .ok (.aload_n 0, 1) := by decide +kernel
theorem dX6_isAsked_1 : decode cX6_isAsked 1 = .ok (.aload_n 0, 1) := by decide +kernel
theorem dX6_isAsked_2 : decode cX6_isAsked 2 = .ok (.iload_n 1, 1) := by decide +kernel
theorem dX6_isAsked_3 : decode cX6_isAsked 3 = .ok (.invokevirtual 91, 3) := by decide +kernel
theorem dX6_isAsked_6 : decode cX6_isAsked 6 = .ok (.ifCond .ne 7, 3) := by decide +kernel
theorem dX6_isAsked_9 : decode cX6_isAsked 9 = .ok (.iconst 1, 1) := by decide +kernel
theorem dX6_isAsked_10 : decode cX6_isAsked 10 = .ok (.goto 36, 3) := by decide +kernel
theorem dX6_isAsked_13 : decode cX6_isAsked 13 = .ok (.iload_n 2, 1) := by decide +kernel
theorem dX6_isAsked_14 : decode cX6_isAsked 14 = .ok (.invokestatic 145, 3) := by decide +kernel
theorem dX6_isAsked_17 : decode cX6_isAsked 17 = .ok (.ifCond .eq 28, 3) := by decide +kernel
theorem dX6_isAsked_20 : decode cX6_isAsked 20 = .ok (.iload_n 3, 1) := by decide +kernel
theorem dX6_isAsked_21 : decode cX6_isAsked 21 = .ok (.iconst 0, 1) := by decide +kernel
theorem dX6_isAsked_22 : decode cX6_isAsked 22 = .ok (.bipush 9, 2) := by decide +kernel
theorem dX6_isAsked_24 : decode cX6_isAsked 24 = .ok (.invokestatic 87, 3) := by decide +kernel
theorem dX6_isAsked_27 : decode cX6_isAsked 27 = .ok (.ifCond .eq 18, 3) := by decide +kernel
theorem dX6_isAsked_30 : decode cX6_isAsked 30 = .ok (.iload 4, 2) := by decide +kernel
theorem dX6_isAsked_32 : decode cX6_isAsked 32 = .ok (.iconst 0, 1) := by decide +kernel
theorem dX6_isAsked_33 : decode cX6_isAsked 33 = .ok (.bipush 9, 2) := by decide +kernel
theorem dX6_isAsked_35 : decode cX6_isAsked 35 = .ok (.invokestatic 87, 3) := by decide +kernel
theorem dX6_isAsked_38 : decode cX6_isAsked 38 = .ok (.ifCond .eq 7, 3) := by decide +kernel
theorem dX6_isAsked_41 : decode cX6_isAsked 41 = .ok (.iconst 0, 1) := by decide +kernel
theorem dX6_isAsked_42 : decode cX6_isAsked 42 = .ok (.goto 4, 3) := by decide +kernel
theorem dX6_isAsked_45 : decode cX6_isAsked 45 = .ok (.iconst 2, 1) := by decide +kernel
theorem dX6_isAsked_46 : decode cX6_isAsked 46 = .ok (.putfield 80, 3) := by decide +kernel
theorem dX6_isAsked_49 : decode cX6_isAsked 49 = .ok (.aload_n 0, 1) := by decide +kernel
theorem dX6_isAsked_50 : decode cX6_isAsked 50 = .ok (.getfield 80, 3) := by decide +kernel
theorem dX6_isAsked_53 : decode cX6_isAsked 53 = .ok (.ifCond .ne 7, 3) := by decide +kernel
theorem dX6_isAsked_56 : decode cX6_isAsked 56 = .ok (.iconst 1, 1) := by decide +kernel
theorem dX6_isAsked_57 : decode cX6_isAsked 57 = .ok (.goto 4, 3) := by decide +kernel
theorem dX6_isAsked_60 : decode cX6_isAsked 60 = .ok (.iconst 0, 1) := by decide +kernel
theorem dX6_isAsked_61 : decode cX6_isAsked 61 = .ok (.ireturn, 1) := by decide +kernel
theorem dX6_gets_0 : decode cX6_gets 0 = .ok (.aload_n 0, 1) := by decide +kernel
theorem dX6_gets_1 : decode cX6_gets 1 = .ok (.iload_n 1, 1) := by decide +kernel
theorem dX6_gets_2 : decode cX6_gets 2 = .ok (.iload_n 2, 1) := by decide +kernel
theorem dX6_gets_3 : decode cX6_gets 3 = .ok (.iload_n 3, 1) := by decide +kernel
theorem dX6_gets_4 : decode cX6_gets 4 = .ok (.iload 4, 2) := by decide +kernel
theorem dX6_gets_6 : decode cX6_gets 6 = .ok (.invokevirtual 175, 3) := by decide +kernel
theorem dX6_gets_9 : decode cX6_gets 9 = .ok (.ifCond .eq 15, 3) := by decide +kernel
theorem dX6_gets_12 : decode cX6_gets 12 = .ok (.aload_n 0, 1) := by decide +kernel
theorem dX6_gets_13 : decode cX6_gets 13 = .ok (.iload_n 1, 1) := by decide +kernel
theorem dX6_gets_14 : decode cX6_gets 14 = .ok (.iload_n 2, 1) := by decide +kernel
theorem dX6_gets_15 : decode cX6_gets 15 = .ok (.iload_n 3, 1) := by decide +kernel
theorem dX6_gets_16 : decode cX6_gets 16 = .ok (.iload 4, 2) := by decide +kernel
theorem dX6_gets_18 : decode cX6_gets 18 = .ok (.invokevirtual 154, 3) := by decide +kernel
theorem dX6_gets_21 : decode cX6_gets 21 = .ok (.goto 4, 3) := by decide +kernel
theorem dX6_gets_24 : decode cX6_gets 24 = .ok (.iconst 0, 1) := by decide +kernel
theorem dX6_gets_25 : decode cX6_gets 25 = .ok (.ireturn, 1) := by decide +kernel
theorem dX6_why_0 : decode cX6_why 0 = .ok (.aload_n 0, 1) := by decide +kernel
theorem dX6_why_1 : decode cX6_why 1 = .ok (.iload_n 1, 1) := by decide +kernel
theorem dX6_why_2 : decode cX6_why 2 = .ok (.iload_n 2, 1) := by decide +kernel
theorem dX6_why_3 : decode cX6_why 3 = .ok (.iload_n 3, 1) := by decide +kernel
theorem dX6_why_4 : decode cX6_why 4 = .ok (.iload 4, 2) := by decide +kernel
theorem dX6_why_6 : decode cX6_why 6 = .ok (.invokevirtual 175, 3) := by decide +kernel
theorem dX6_why_9 : decode cX6_why 9 = .ok (.ifCond .ne 5, 3) := by decide +kernel
theorem dX6_why_12 : decode cX6_why 12 = .ok (.iconst 0, 1) := by decide +kernel
theorem dX6_why_13 : decode cX6_why 13 = .ok (.ireturn, 1) := by decide +kernel
theorem dX6_why_14 : decode cX6_why 14 = .ok (.aload_n 0, 1) := by decide +kernel
theorem dX6_why_15 : decode cX6_why 15 = .ok (.iload_n 1, 1) := by decide +kernel
theorem dX6_why_16 : decode cX6_why 16 = .ok (.iload_n 2, 1) := by decide +kernel
theorem dX6_why_17 : decode cX6_why 17 = .ok (.iload_n 3, 1) := by decide +kernel
theorem dX6_why_18 : decode cX6_why 18 = .ok (.iload 4, 2) := by decide +kernel
theorem dX6_why_20 : decode cX6_why 20 = .ok (.invokevirtual 154, 3) := by decide +kernel
theorem dX6_why_23 : decode cX6_why 23 = .ok (.pop, 1) := by decide +kernel
theorem dX6_why_24 : decode cX6_why 24 = .ok (.aload_n 0, 1) := by decide +kernel
theorem dX6_why_25 : decode cX6_why 25 = .ok (.getfield 165, 3) := by decide +kernel
theorem dX6_why_28 : decode cX6_why 28 = .ok (.ireturn, 1) := by decide +kernel
theorem dX6_holds_0 : decode cX6_holds 0 = .ok (.aload_n 0, 1) := by decide +kernel
theorem dX6_holds_1 : decode cX6_holds 1 = .ok (.iload_n 1, 1) := by decide +kernel
theorem dX6_holds_2 : decode cX6_holds 2 = .ok (.iload_n 2, 1) := by decide +kernel
theorem dX6_holds_3 : decode cX6_holds 3 = .ok (.iload_n 3, 1) := by decide +kernel
theorem dX6_holds_4 : decode cX6_holds 4 = .ok (.iload 4, 2) := by decide +kernel
theorem dX6_holds_6 : decode cX6_holds 6 = .ok (.invokevirtual 175, 3) := by decide +kernel
theorem dX6_holds_9 : decode cX6_holds 9 = .ok (.ifCond .eq 14, 3) := by decide +kernel
theorem dX6_holds_12 : decode cX6_holds 12 = .ok (.aload_n 0, 1) := by decide +kernel
theorem dX6_holds_13 : decode cX6_holds 13 = .ok (.iload_n 1, 1) := by decide +kernel
theorem dX6_holds_14 : decode cX6_holds 14 = .ok (.iload_n 3, 1) := by decide +kernel
theorem dX6_holds_15 : decode cX6_holds 15 = .ok (.iload 4, 2) := by decide +kernel
theorem dX6_holds_17 : decode cX6_holds 17 = .ok (.invokevirtual 161, 3) := by decide +kernel
theorem dX6_holds_20 : decode cX6_holds 20 = .ok (.goto 4, 3) := by decide +kernel
theorem dX6_holds_23 : decode cX6_holds 23 = .ok (.iconst 0, 1) := by decide +kernel
theorem dX6_holds_24 : decode cX6_holds 24 = .ok (.ireturn, 1) := by decide +kernel
theorem dX6_ask_0 : decode cX6_ask 0 = .ok (.aload_n 0, 1) := by decide +kernel
theorem dX6_ask_1 : decode cX6_ask 1 = .ok (.iload_n 1, 1) := by decide +kernel
theorem dX6_ask_2 : decode cX6_ask 2 = .ok (.iload_n 2, 1) := by decide +kernel
theorem dX6_ask_3 : decode cX6_ask 3 = .ok (.iload_n 3, 1) := by decide +kernel
theorem dX6_ask_4 : decode cX6_ask 4 = .ok (.iload 4, 2) := by decide +kernel
theorem dX6_ask_6 : decode cX6_ask 6 = .ok (.invokevirtual 175, 3) := by decide +kernel
theorem dX6_ask_9 : decode cX6_ask 9 = .ok (.ifCond .ne 5, 3) := by decide +kernel
theorem dX6_ask_12 : decode cX6_ask 12 = .ok (.iconst 0, 1) := by decide +kernel
theorem dX6_ask_13 : decode cX6_ask 13 = .ok (.ireturn, 1) := by decide +kernel
theorem dX6_ask_14 : decode cX6_ask 14 = .ok (.aload_n 0, 1) := by decide +kernel
theorem dX6_ask_15 : decode cX6_ask 15 = .ok (.iload_n 1, 1) := by decide +kernel
theorem dX6_ask_16 : decode cX6_ask 16 = .ok (.iload_n 2, 1) := by decide +kernel
theorem dX6_ask_17 : decode cX6_ask 17 = .ok (.iload_n 3, 1) := by decide +kernel
theorem dX6_ask_18 : decode cX6_ask 18 = .ok (.iload 4, 2) := by decide +kernel
theorem dX6_ask_20 : decode cX6_ask 20 = .ok (.invokevirtual 154, 3) := by decide +kernel
theorem dX6_ask_23 : decode cX6_ask 23 = .ok (.istore 5, 2) := by decide +kernel
theorem dX6_ask_25 : decode cX6_ask 25 = .ok (.aload_n 0, 1) := by decide +kernel
theorem dX6_ask_26 : decode cX6_ask 26 = .ok (.getfield 165, 3) := by decide +kernel
theorem dX6_ask_29 : decode cX6_ask 29 = .ok (.bipush 8, 2) := by decide +kernel
theorem dX6_ask_31 : decode cX6_ask 31 = .ok (.if_icmp .ne 60, 3) := by decide +kernel
theorem dX6_ask_34 : decode cX6_ask 34 = .ok (.aload_n 0, 1) := by decide +kernel
theorem dX6_ask_35 : decode cX6_ask 35 = .ok (.getfield 151, 3) := by decide +kernel
theorem dX6_ask_38 : decode cX6_ask 38 = .ok (.bipush 100, 2) := by decide +kernel
theorem dX6_ask_40 : decode cX6_ask 40 = .ok (.if_icmp .ge 51, 3) := by decide +kernel
theorem dX6_ask_43 : decode cX6_ask 43 = .ok (.aload_n 0, 1) := by decide +kernel
theorem dX6_ask_44 : decode cX6_ask 44 = .ok (.iload_n 1, 1) := by decide +kernel
theorem dX6_ask_45 : decode cX6_ask 45 = .ok (.iload_n 2, 1) := by decide +kernel
theorem dX6_ask_46 : decode cX6_ask 46 = .ok (.invokevirtual 158, 3) := by decide +kernel
theorem dX6_ask_49 : decode cX6_ask 49 = .ok (.iconst (-1), 1) := by decide +kernel
theorem dX6_ask_50 : decode cX6_ask 50 = .ok (.if_icmp .ne 41, 3) := by decide +kernel
theorem dX6_ask_53 : decode cX6_ask 53 = .ok (.aload_n 0, 1) := by decide +kernel
theorem dX6_ask_54 : decode cX6_ask 54 = .ok (.getfield 65, 3) := by decide +kernel
theorem dX6_ask_57 : decode cX6_ask 57 = .ok (.aload_n 0, 1) := by decide +kernel
theorem dX6_ask_58 : decode cX6_ask 58 = .ok (.getfield 151, 3) := by decide +kernel
theorem dX6_ask_61 : decode cX6_ask 61 = .ok (.iload_n 1, 1) := by decide +kernel
theorem dX6_ask_62 : decode cX6_ask 62 = .ok (.iastore, 1) := by decide +kernel
theorem dX6_ask_63 : decode cX6_ask 63 = .ok (.aload_n 0, 1) := by decide +kernel
theorem dX6_ask_64 : decode cX6_ask 64 = .ok (.getfield 68, 3) := by decide +kernel
theorem dX6_ask_67 : decode cX6_ask 67 = .ok (.aload_n 0, 1) := by decide +kernel
theorem dX6_ask_68 : decode cX6_ask 68 = .ok (.getfield 151, 3) := by decide +kernel
theorem dX6_ask_71 : decode cX6_ask 71 = .ok (.iload_n 2, 1) := by decide +kernel
theorem dX6_ask_72 : decode cX6_ask 72 = .ok (.iastore, 1) := by decide +kernel
theorem dX6_ask_73 : decode cX6_ask 73 = .ok (.aload_n 0, 1) := by decide +kernel
theorem dX6_ask_74 : decode cX6_ask 74 = .ok (.getfield 71, 3) := by decide +kernel
theorem dX6_ask_77 : decode cX6_ask 77 = .ok (.aload_n 0, 1) := by decide +kernel
theorem dX6_ask_78 : decode cX6_ask 78 = .ok (.dup, 1) := by decide +kernel
theorem dX6_ask_79 : decode cX6_ask 79 = .ok (.getfield 151, 3) := by decide +kernel
theorem dX6_ask_82 : decode cX6_ask 82 = .ok (.dup_x1, 1) := by decide +kernel
theorem dX6_ask_83 : decode cX6_ask 83 = .ok (.iconst 1, 1) := by decide +kernel
theorem dX6_ask_84 : decode cX6_ask 84 = .ok (.iadd, 1) := by decide +kernel
theorem dX6_ask_85 : decode cX6_ask 85 = .ok (.putfield 151, 3) := by decide +kernel
theorem dX6_ask_88 : decode cX6_ask 88 = .ok (.iload 5, 2) := by decide +kernel
theorem dX6_ask_90 : decode cX6_ask 90 = .ok (.iastore, 1) := by decide +kernel
theorem dX6_ask_91 : decode cX6_ask 91 = .ok (.iload 5, 2) := by decide +kernel
theorem dX6_ask_93 : decode cX6_ask 93 = .ok (.ireturn, 1) := by decide +kernel
theorem dX6_act_0 : decode cX6_act 0 = .ok (.aload_n 0, 1) := by decide +kernel
theorem dX6_act_1 : decode cX6_act 1 = .ok (.iconst 0, 1) := by decide +kernel
theorem dX6_act_2 : decode cX6_act 2 = .ok (.putfield 80, 3) := by decide +kernel
theorem dX6_act_5 : decode cX6_act 5 = .ok (.iload_n 1, 1) := by decide +kernel
theorem dX6_act_6 : decode cX6_act 6 = .ok (.invokestatic 145, 3) := by decide +kernel
theorem dX6_act_9 : decode cX6_act 9 = .ok (.ifCond .eq 13, 3) := by decide +kernel
theorem dX6_act_12 : decode cX6_act 12 = .ok (.iload_n 2, 1) := by decide +kernel
theorem dX6_act_13 : decode cX6_act 13 = .ok (.iconst 0, 1) := by decide +kernel
theorem dX6_act_14 : decode cX6_act 14 = .ok (.bipush 100, 2) := by decide +kernel
theorem dX6_act_16 : decode cX6_act 16 = .ok (.invokestatic 87, 3) := by decide +kernel
theorem dX6_act_19 : decode cX6_act 19 = .ok (.ifCond .ne 9, 3) := by decide +kernel
theorem dX6_act_22 : decode cX6_act 22 = .ok (.aload_n 0, 1) := by decide +kernel
theorem dX6_act_23 : decode cX6_act 23 = .ok (.iconst 1, 1) := by decide +kernel
theorem dX6_act_24 : decode cX6_act 24 = .ok (.invokevirtual 95, 3) := by decide +kernel
theorem dX6_act_27 : decode cX6_act 27 = .ok (.ireturn, 1) := by decide +kernel
theorem dX6_act_28 : decode cX6_act 28 = .ok (.iconst 0, 1) := by decide +kernel
theorem dX6_act_29 : decode cX6_act 29 = .ok (.istore_n 3, 1) := by decide +kernel
theorem dX6_act_30 : decode cX6_act 30 = .ok (.iconst 0, 1) := by decide +kernel
theorem dX6_act_31 : decode cX6_act 31 = .ok (.istore 4, 2) := by decide +kernel
theorem dX6_act_33 : decode cX6_act 33 = .ok (.iload 4, 2) := by decide +kernel
theorem dX6_act_35 : decode cX6_act 35 = .ok (.aload_n 0, 1) := by decide +kernel
theorem dX6_act_36 : decode cX6_act 36 = .ok (.getfield 151, 3) := by decide +kernel
theorem dX6_act_39 : decode cX6_act 39 = .ok (.if_icmp .ge 45, 3) := by decide +kernel
theorem dX6_act_42 : decode cX6_act 42 = .ok (.aload_n 0, 1) := by decide +kernel
theorem dX6_act_43 : decode cX6_act 43 = .ok (.getfield 68, 3) := by decide +kernel
theorem dX6_act_46 : decode cX6_act 46 = .ok (.iload 4, 2) := by decide +kernel
theorem dX6_act_48 : decode cX6_act 48 = .ok (.iaload, 1) := by decide +kernel
theorem dX6_act_49 : decode cX6_act 49 = .ok (.iload_n 1, 1) := by decide +kernel
theorem dX6_act_50 : decode cX6_act 50 = .ok (.if_icmp .eq 6, 3) := by decide +kernel
theorem dX6_act_53 : decode cX6_act 53 = .ok (.goto 25, 3) := by decide +kernel
theorem dX6_act_56 : decode cX6_act 56 = .ok (.aload_n 0, 1) := by decide +kernel
theorem dX6_act_57 : decode cX6_act 57 = .ok (.getfield 74, 3) := by decide +kernel
theorem dX6_act_60 : decode cX6_act 60 = .ok (.iload 4, 2) := by decide +kernel
theorem dX6_act_62 : decode cX6_act 62 = .ok (.dup2, 1) := by decide +kernel
theorem dX6_act_63 : decode cX6_act 63 = .ok (.iaload, 1) := by decide +kernel
theorem dX6_act_64 : decode cX6_act 64 = .ok (.iload_n 2, 1) := by decide +kernel
theorem dX6_act_65 : decode cX6_act 65 = .ok (.iadd, 1) := by decide +kernel
theorem dX6_act_66 : decode cX6_act 66 = .ok (.iastore, 1) := by decide +kernel
theorem dX6_act_67 : decode cX6_act 67 = .ok (.aload_n 0, 1) := by decide +kernel
theorem dX6_act_68 : decode cX6_act 68 = .ok (.getfield 77, 3) := by decide +kernel
theorem dX6_act_71 : decode cX6_act 71 = .ok (.iload 4, 2) := by decide +kernel
theorem dX6_act_73 : decode cX6_act 73 = .ok (.iconst 1, 1) := by decide +kernel
theorem dX6_act_74 : decode cX6_act 74 = .ok (.bastore, 1) := by decide +kernel
theorem dX6_act_75 : decode cX6_act 75 = .ok (.iinc 3 1, 3) := by decide +kernel
theorem dX6_act_78 : decode cX6_act 78 = .ok (.iinc 4 1, 3) := by decide +kernel
theorem dX6_act_81 : decode cX6_act 81 = .ok (.goto (-48), 3) := by decide +kernel
theorem dX6_act_84 : decode cX6_act 84 = .ok (.iload_n 3, 1) := by decide +kernel
theorem dX6_act_85 : decode cX6_act 85 = .ok (.ireturn, 1) := by decide +kernel
theorem dX6_armNow_0 : decode cX6_armNow 0 = .ok (.aload_n 0, 1) := by decide +kernel
theorem dX6_armNow_1 : decode cX6_armNow 1 = .ok (.iload_n 1, 1) := by decide +kernel
theorem dX6_armNow_2 : decode cX6_armNow 2 = .ok (.iload_n 2, 1) := by decide +kernel
theorem dX6_armNow_3 : decode cX6_armNow 3 = .ok (.invokevirtual 158, 3) := by decide +kernel
theorem dX6_armNow_6 : decode cX6_armNow 6 = .ok (.istore_n 3, 1) := by decide +kernel
theorem dX6_armNow_7 : decode cX6_armNow 7 = .ok (.iload_n 3, 1) := by decide +kernel
theorem dX6_armNow_8 : decode cX6_armNow 8 = .ok (.iconst (-1), 1) := by decide +kernel
theorem dX6_armNow_9 : decode cX6_armNow 9 = .ok (.if_icmp .ne 7, 3) := by decide +kernel
theorem dX6_armNow_12 : decode cX6_armNow 12 = .ok (.iconst (-1), 1) := by decide +kernel
theorem dX6_armNow_13 : decode cX6_armNow 13 = .ok (.goto 9, 3) := by decide +kernel
theorem dX6_armNow_16 : decode cX6_armNow 16 = .ok (.aload_n 0, 1) := by decide +kernel
theorem dX6_armNow_17 : decode cX6_armNow 17 = .ok (.getfield 71, 3) := by decide +kernel
theorem dX6_armNow_20 : decode cX6_armNow 20 = .ok (.iload_n 3, 1) := by decide +kernel
theorem dX6_armNow_21 : decode cX6_armNow 21 = .ok (.iaload, 1) := by decide +kernel
theorem dX6_armNow_22 : decode cX6_armNow 22 = .ok (.ireturn, 1) := by decide +kernel
theorem dX6_arm_0 : decode cX6_arm 0 = .ok (.aload_n 0, 1) := by decide +kernel
theorem dX6_arm_1 : decode cX6_arm 1 = .ok (.iconst 0, 1) := by decide +kernel
theorem dX6_arm_2 : decode cX6_arm 2 = .ok (.putfield 80, 3) := by decide +kernel
theorem dX6_arm_5 : decode cX6_arm 5 = .ok (.aload_n 0, 1) := by decide +kernel
theorem dX6_arm_6 : decode cX6_arm 6 = .ok (.iload_n 1, 1) := by decide +kernel
theorem dX6_arm_7 : decode cX6_arm 7 = .ok (.invokevirtual 91, 3) := by decide +kernel
theorem dX6_arm_10 : decode cX6_arm 10 = .ok (.ifCond .ne 9, 3) := by decide +kernel
theorem dX6_arm_13 : decode cX6_arm 13 = .ok (.aload_n 0, 1) := by decide +kernel
theorem dX6_arm_14 : decode cX6_arm 14 = .ok (.iconst 1, 1) := by decide +kernel
theorem dX6_arm_15 : decode cX6_arm 15 = .ok (.invokevirtual 95, 3) := by decide +kernel
theorem dX6_arm_18 : decode cX6_arm 18 = .ok (.ireturn, 1) := by decide +kernel
theorem dX6_arm_19 : decode cX6_arm 19 = .ok (.iload_n 2, 1) := by decide +kernel
theorem dX6_arm_20 : decode cX6_arm 20 = .ok (.invokestatic 145, 3) := by decide +kernel
theorem dX6_arm_23 : decode cX6_arm 23 = .ok (.ifCond .eq 12, 3) := by decide +kernel
theorem dX6_arm_26 : decode cX6_arm 26 = .ok (.aload_n 0, 1) := by decide +kernel
theorem dX6_arm_27 : decode cX6_arm 27 = .ok (.iload_n 1, 1) := by decide +kernel
theorem dX6_arm_28 : decode cX6_arm 28 = .ok (.iload_n 2, 1) := by decide +kernel
theorem dX6_arm_29 : decode cX6_arm 29 = .ok (.invokevirtual 179, 3) := by decide +kernel
theorem dX6_arm_32 : decode cX6_arm 32 = .ok (.goto 8, 3) := by decide +kernel
theorem dX6_arm_35 : decode cX6_arm 35 = .ok (.aload_n 0, 1) := by decide +kernel
theorem dX6_arm_36 : decode cX6_arm 36 = .ok (.iconst 2, 1) := by decide +kernel
theorem dX6_arm_37 : decode cX6_arm 37 = .ok (.invokevirtual 95, 3) := by decide +kernel
theorem dX6_arm_40 : decode cX6_arm 40 = .ok (.ireturn, 1) := by decide +kernel
theorem dX6_arms_0 : decode cX6_arms 0 = .ok (.aload_n 0, 1) := by decide +kernel
theorem dX6_arms_1 : decode cX6_arms 1 = .ok (.aload_n 0, 1) := by decide +kernel
theorem dX6_arms_2 : decode cX6_arms 2 = .ok (.getfield 151, 3) := by decide +kernel
theorem dX6_arms_5 : decode cX6_arms 5 = .ok (.invokevirtual 139, 3) := by decide +kernel
theorem dX6_arms_8 : decode cX6_arms 8 = .ok (.ireturn, 1) := by decide +kernel
theorem dX6_toldNow_0 : decode cX6_toldNow 0 = .ok (.iconst 0, 1) := by decide +kernel
theorem dX6_toldNow_1 : decode cX6_toldNow 1 = .ok (.istore 4, 2) := by decide +kernel
theorem dX6_toldNow_3 : decode cX6_toldNow 3 = .ok (.iconst 0, 1) := by decide +kernel
theorem dX6_toldNow_4 : decode cX6_toldNow 4 = .ok (.istore 5, 2) := by decide +kernel
theorem dX6_toldNow_6 : decode cX6_toldNow 6 = .ok (.iload 5, 2) := by decide +kernel
theorem dX6_toldNow_8 : decode cX6_toldNow 8 = .ok (.aload_n 0, 1) := by decide +kernel
theorem dX6_toldNow_9 : decode cX6_toldNow 9 = .ok (.getfield 151, 3) := by decide +kernel
theorem dX6_toldNow_12 : decode cX6_toldNow 12 = .ok (.if_icmp .ge 100, 3) := by decide +kernel
theorem dX6_toldNow_15 : decode cX6_toldNow 15 = .ok (.aload_n 0, 1) := by decide +kernel
theorem dX6_toldNow_16 : decode cX6_toldNow 16 = .ok (.getfield 65, 3) := by decide +kernel
theorem dX6_toldNow_19 : decode cX6_toldNow 19 = .ok (.iload 5, 2) := by decide +kernel
theorem dX6_toldNow_21 : decode cX6_toldNow 21 = .ok (.iaload, 1) := by decide +kernel
theorem dX6_toldNow_22 : decode cX6_toldNow 22 = .ok (.iload_n 1, 1) := by decide +kernel
theorem dX6_toldNow_23 : decode cX6_toldNow 23 = .ok (.if_icmp .ne 83, 3) := by decide +kernel
theorem dX6_toldNow_26 : decode cX6_toldNow 26 = .ok (.aload_n 0, 1) := by decide +kernel
theorem dX6_toldNow_27 : decode cX6_toldNow 27 = .ok (.getfield 71, 3) := by decide +kernel
theorem dX6_toldNow_30 : decode cX6_toldNow 30 = .ok (.iload 5, 2) := by decide +kernel
theorem dX6_toldNow_32 : decode cX6_toldNow 32 = .ok (.iaload, 1) := by decide +kernel
theorem dX6_toldNow_33 : decode cX6_toldNow 33 = .ok (.iload_n 2, 1) := by decide +kernel
theorem dX6_toldNow_34 : decode cX6_toldNow 34 = .ok (.if_icmp .eq 6, 3) := by decide +kernel
theorem dX6_toldNow_37 : decode cX6_toldNow 37 = .ok (.goto 69, 3) := by decide +kernel
theorem dX6_toldNow_40 : decode cX6_toldNow 40 = .ok (.iload 4, 2) := by decide +kernel
theorem dX6_toldNow_42 : decode cX6_toldNow 42 = .ok (.iload_n 3, 1) := by decide +kernel
theorem dX6_toldNow_43 : decode cX6_toldNow 43 = .ok (.ifCond .ne 7, 3) := by decide +kernel
theorem dX6_toldNow_46 : decode cX6_toldNow 46 = .ok (.iconst 1, 1) := by decide +kernel
theorem dX6_toldNow_47 : decode cX6_toldNow 47 = .ok (.goto 56, 3) := by decide +kernel
theorem dX6_toldNow_50 : decode cX6_toldNow 50 = .ok (.iload_n 3, 1) := by decide +kernel
theorem dX6_toldNow_51 : decode cX6_toldNow 51 = .ok (.iconst 1, 1) := by decide +kernel
theorem dX6_toldNow_52 : decode cX6_toldNow 52 = .ok (.if_icmp .ne 21, 3) := by decide +kernel
theorem dX6_toldNow_55 : decode cX6_toldNow 55 = .ok (.aload_n 0, 1) := by decide +kernel
theorem dX6_toldNow_56 : decode cX6_toldNow 56 = .ok (.getfield 77, 3) := by decide +kernel
theorem dX6_toldNow_59 : decode cX6_toldNow 59 = .ok (.iload 5, 2) := by decide +kernel
theorem dX6_toldNow_61 : decode cX6_toldNow 61 = .ok (.baload, 1) := by decide +kernel
theorem dX6_toldNow_62 : decode cX6_toldNow 62 = .ok (.ifCond .eq 7, 3) := by decide +kernel
theorem dX6_toldNow_65 : decode cX6_toldNow 65 = .ok (.iconst 1, 1) := by decide +kernel
theorem dX6_toldNow_66 : decode cX6_toldNow 66 = .ok (.goto 37, 3) := by decide +kernel
theorem dX6_toldNow_69 : decode cX6_toldNow 69 = .ok (.iconst 0, 1) := by decide +kernel
theorem dX6_toldNow_70 : decode cX6_toldNow 70 = .ok (.goto 33, 3) := by decide +kernel
theorem dX6_toldNow_73 : decode cX6_toldNow 73 = .ok (.iload_n 3, 1) := by decide +kernel
theorem dX6_toldNow_74 : decode cX6_toldNow 74 = .ok (.iconst 2, 1) := by decide +kernel
theorem dX6_toldNow_75 : decode cX6_toldNow 75 = .ok (.if_icmp .ne 13, 3) := by decide +kernel
theorem dX6_toldNow_78 : decode cX6_toldNow 78 = .ok (.aload_n 0, 1) := by decide +kernel
theorem dX6_toldNow_79 : decode cX6_toldNow 79 = .ok (.getfield 74, 3) := by decide +kernel
theorem dX6_toldNow_82 : decode cX6_toldNow 82 = .ok (.iload 5, 2) := by decide +kernel
theorem dX6_toldNow_84 : decode cX6_toldNow 84 = .ok (.iaload, 1) := by decide +kernel
theorem dX6_toldNow_85 : decode cX6_toldNow 85 = .ok (.goto 18, 3) := by decide +kernel
theorem dX6_toldNow_88 : decode cX6_toldNow 88 = .ok (.aload_n 0, 1) := by decide +kernel
theorem dX6_toldNow_89 : decode cX6_toldNow 89 = .ok (.getfield 74, 3) := by decide +kernel
theorem dX6_toldNow_92 : decode cX6_toldNow 92 = .ok (.iload 5, 2) := by decide +kernel
theorem dX6_toldNow_94 : decode cX6_toldNow 94 = .ok (.iaload, 1) := by decide +kernel
theorem dX6_toldNow_95 : decode cX6_toldNow 95 = .ok (.aload_n 0, 1) := by decide +kernel
theorem dX6_toldNow_96 : decode cX6_toldNow 96 = .ok (.getfield 74, 3) := by decide +kernel
theorem dX6_toldNow_99 : decode cX6_toldNow 99 = .ok (.iload 5, 2) := by decide +kernel
theorem dX6_toldNow_101 : decode cX6_toldNow 101 = .ok (.iaload, 1) := by decide +kernel
theorem dX6_toldNow_102 : decode cX6_toldNow 102 = .ok (.imul, 1) := by decide +kernel
theorem dX6_toldNow_103 : decode cX6_toldNow 103 = .ok (.iadd, 1) := by decide +kernel
theorem dX6_toldNow_104 : decode cX6_toldNow 104 = .ok (.istore 4, 2) := by decide +kernel
theorem dX6_toldNow_106 : decode cX6_toldNow 106 = .ok (.iinc 5 1, 3) := by decide +kernel
theorem dX6_toldNow_109 : decode cX6_toldNow 109 = .ok (.goto (-103), 3) := by decide +kernel
theorem dX6_toldNow_112 : decode cX6_toldNow 112 = .ok (.iload 4, 2) := by decide +kernel
theorem dX6_toldNow_114 : decode cX6_toldNow 114 = .ok (.ireturn, 1) := by decide +kernel
theorem dX6_told_0 : decode cX6_told 0 = .ok (.aload_n 0, 1) := by decide +kernel
theorem dX6_told_1 : decode cX6_told 1 = .ok (.iconst 0, 1) := by decide +kernel
theorem dX6_told_2 : decode cX6_told 2 = .ok (.putfield 80, 3) := by decide +kernel
theorem dX6_told_5 : decode cX6_told 5 = .ok (.aload_n 0, 1) := by decide +kernel
theorem dX6_told_6 : decode cX6_told 6 = .ok (.iload_n 1, 1) := by decide +kernel
theorem dX6_told_7 : decode cX6_told 7 = .ok (.iload_n 2, 1) := by decide +kernel
theorem dX6_told_8 : decode cX6_told 8 = .ok (.invokevirtual 102, 3) := by decide +kernel
theorem dX6_told_11 : decode cX6_told 11 = .ok (.ifCond .ne 9, 3) := by decide +kernel
theorem dX6_told_14 : decode cX6_told 14 = .ok (.aload_n 0, 1) := by decide +kernel
theorem dX6_told_15 : decode cX6_told 15 = .ok (.iconst 1, 1) := by decide +kernel
theorem dX6_told_16 : decode cX6_told 16 = .ok (.invokevirtual 95, 3) := by decide +kernel
theorem dX6_told_19 : decode cX6_told 19 = .ok (.ireturn, 1) := by decide +kernel
theorem dX6_told_20 : decode cX6_told 20 = .ok (.iload_n 3, 1) := by decide +kernel
theorem dX6_told_21 : decode cX6_told 21 = .ok (.iconst 0, 1) := by decide +kernel
theorem dX6_told_22 : decode cX6_told 22 = .ok (.iconst 3, 1) := by decide +kernel
theorem dX6_told_23 : decode cX6_told 23 = .ok (.invokestatic 87, 3) := by decide +kernel
theorem dX6_told_26 : decode cX6_told 26 = .ok (.ifCond .eq 13, 3) := by decide +kernel
theorem dX6_told_29 : decode cX6_told 29 = .ok (.aload_n 0, 1) := by decide +kernel
theorem dX6_told_30 : decode cX6_told 30 = .ok (.iload_n 1, 1) := by decide +kernel
theorem dX6_told_31 : decode cX6_told 31 = .ok (.iload_n 2, 1) := by decide +kernel
theorem dX6_told_32 : decode cX6_told 32 = .ok (.iload_n 3, 1) := by decide +kernel
theorem dX6_told_33 : decode cX6_told 33 = .ok (.invokevirtual 182, 3) := by decide +kernel
theorem dX6_told_36 : decode cX6_told 36 = .ok (.goto 8, 3) := by decide +kernel
theorem dX6_told_39 : decode cX6_told 39 = .ok (.aload_n 0, 1) := by decide +kernel
theorem dX6_told_40 : decode cX6_told 40 = .ok (.iconst 2, 1) := by decide +kernel
theorem dX6_told_41 : decode cX6_told 41 = .ok (.invokevirtual 95, 3) := by decide +kernel
theorem dX6_told_44 : decode cX6_told 44 = .ok (.ireturn, 1) := by decide +kernel
theorem dX6_meanNow_0 : decode cX6_meanNow 0 = .ok (.aload_n 0, 1) := by decide +kernel
theorem dX6_meanNow_1 : decode cX6_meanNow 1 = .ok (.iload_n 1, 1) := by decide +kernel
theorem dX6_meanNow_2 : decode cX6_meanNow 2 = .ok (.iload_n 2, 1) := by decide +kernel
theorem dX6_meanNow_3 : decode cX6_meanNow 3 = .ok (.iconst 0, 1) := by decide +kernel
theorem dX6_meanNow_4 : decode cX6_meanNow 4 = .ok (.invokevirtual 182, 3) := by decide +kernel
theorem dX6_meanNow_7 : decode cX6_meanNow 7 = .ok (.istore_n 3, 1) := by decide +kernel
theorem dX6_meanNow_8 : decode cX6_meanNow 8 = .ok (.iload_n 3, 1) := by decide +kernel
theorem dX6_meanNow_9 : decode cX6_meanNow 9 = .ok (.ifCond .ne 7, 3) := by decide +kernel
theorem dX6_meanNow_12 : decode cX6_meanNow 12 = .ok (.dconst 0, 1) := by decide +kernel
theorem dX6_meanNow_13 : decode cX6_meanNow 13 = .ok (.goto 14, 3) := by decide +kernel
theorem dX6_meanNow_16 : decode cX6_meanNow 16 = .ok (.aload_n 0, 1) := by decide +kernel
theorem dX6_meanNow_17 : decode cX6_meanNow 17 = .ok (.iload_n 1, 1) := by decide +kernel
theorem dX6_meanNow_18 : decode cX6_meanNow 18 = .ok (.iload_n 2, 1) := by decide +kernel
theorem dX6_meanNow_19 : decode cX6_meanNow 19 = .ok (.iconst 2, 1) := by decide +kernel
theorem dX6_meanNow_20 : decode cX6_meanNow 20 = .ok (.invokevirtual 182, 3) := by decide +kernel
theorem dX6_meanNow_23 : decode cX6_meanNow 23 = .ok (.i2d, 1) := by decide +kernel
theorem dX6_meanNow_24 : decode cX6_meanNow 24 = .ok (.iload_n 3, 1) := by decide +kernel
theorem dX6_meanNow_25 : decode cX6_meanNow 25 = .ok (.i2d, 1) := by decide +kernel
theorem dX6_meanNow_26 : decode cX6_meanNow 26 = .ok (.ddiv, 1) := by decide +kernel
theorem dX6_meanNow_27 : decode cX6_meanNow 27 = .ok (.dreturn, 1) := by decide +kernel
theorem dX6_spread_0 : decode cX6_spread 0 = .ok (.aload_n 0, 1) := by decide +kernel
theorem dX6_spread_1 : decode cX6_spread 1 = .ok (.iload_n 1, 1) := by decide +kernel
theorem dX6_spread_2 : decode cX6_spread 2 = .ok (.iload_n 2, 1) := by decide +kernel
theorem dX6_spread_3 : decode cX6_spread 3 = .ok (.iconst 0, 1) := by decide +kernel
theorem dX6_spread_4 : decode cX6_spread 4 = .ok (.invokevirtual 182, 3) := by decide +kernel
theorem dX6_spread_7 : decode cX6_spread 7 = .ok (.istore_n 3, 1) := by decide +kernel
theorem dX6_spread_8 : decode cX6_spread 8 = .ok (.aload_n 0, 1) := by decide +kernel
theorem dX6_spread_9 : decode cX6_spread 9 = .ok (.iload_n 1, 1) := by decide +kernel
theorem dX6_spread_10 : decode cX6_spread 10 = .ok (.iload_n 2, 1) := by decide +kernel
theorem dX6_spread_11 : decode cX6_spread 11 = .ok (.invokevirtual 185, 3) := by decide +kernel
theorem dX6_spread_14 : decode cX6_spread 14 = .ok (.dstore 4, 2) := by decide +kernel
theorem dX6_spread_16 : decode cX6_spread 16 = .ok (.iload_n 3, 1) := by decide +kernel
theorem dX6_spread_17 : decode cX6_spread 17 = .ok (.ifCond .ne 7, 3) := by decide +kernel
theorem dX6_spread_20 : decode cX6_spread 20 = .ok (.dconst 0, 1) := by decide +kernel
theorem dX6_spread_21 : decode cX6_spread 21 = .ok (.goto 20, 3) := by decide +kernel
theorem dX6_spread_24 : decode cX6_spread 24 = .ok (.aload_n 0, 1) := by decide +kernel
theorem dX6_spread_25 : decode cX6_spread 25 = .ok (.iload_n 1, 1) := by decide +kernel
theorem dX6_spread_26 : decode cX6_spread 26 = .ok (.iload_n 2, 1) := by decide +kernel
theorem dX6_spread_27 : decode cX6_spread 27 = .ok (.iconst 3, 1) := by decide +kernel
theorem dX6_spread_28 : decode cX6_spread 28 = .ok (.invokevirtual 182, 3) := by decide +kernel
theorem dX6_spread_31 : decode cX6_spread 31 = .ok (.i2d, 1) := by decide +kernel
theorem dX6_spread_32 : decode cX6_spread 32 = .ok (.iload_n 3, 1) := by decide +kernel
theorem dX6_spread_33 : decode cX6_spread 33 = .ok (.i2d, 1) := by decide +kernel
theorem dX6_spread_34 : decode cX6_spread 34 = .ok (.ddiv, 1) := by decide +kernel
theorem dX6_spread_35 : decode cX6_spread 35 = .ok (.dload 4, 2) := by decide +kernel
theorem dX6_spread_37 : decode cX6_spread 37 = .ok (.dload 4, 2) := by decide +kernel
theorem dX6_spread_39 : decode cX6_spread 39 = .ok (.dmul, 1) := by decide +kernel
theorem dX6_spread_40 : decode cX6_spread 40 = .ok (.dsub, 1) := by decide +kernel
theorem dX6_spread_41 : decode cX6_spread 41 = .ok (.dreturn, 1) := by decide +kernel
theorem dX6_mean_0 : decode cX6_mean 0 = .ok (.aload_n 0, 1) := by decide +kernel
theorem dX6_mean_1 : decode cX6_mean 1 = .ok (.aload_n 0, 1) := by decide +kernel
theorem dX6_mean_2 : decode cX6_mean 2 = .ok (.iload_n 1, 1) := by decide +kernel
theorem dX6_mean_3 : decode cX6_mean 3 = .ok (.iload_n 2, 1) := by decide +kernel
theorem dX6_mean_4 : decode cX6_mean 4 = .ok (.invokevirtual 102, 3) := by decide +kernel
theorem dX6_mean_7 : decode cX6_mean 7 = .ok (.ifCond .eq 7, 3) := by decide +kernel
theorem dX6_mean_10 : decode cX6_mean 10 = .ok (.iconst 0, 1) := by decide +kernel
theorem dX6_mean_11 : decode cX6_mean 11 = .ok (.goto 4, 3) := by decide +kernel
theorem dX6_mean_14 : decode cX6_mean 14 = .ok (.iconst 1, 1) := by decide +kernel
theorem dX6_mean_15 : decode cX6_mean 15 = .ok (.putfield 80, 3) := by decide +kernel
theorem dX6_mean_18 : decode cX6_mean 18 = .ok (.aload_n 0, 1) := by decide +kernel
theorem dX6_mean_19 : decode cX6_mean 19 = .ok (.getfield 80, 3) := by decide +kernel
theorem dX6_mean_22 : decode cX6_mean 22 = .ok (.ifCond .ne 12, 3) := by decide +kernel
theorem dX6_mean_25 : decode cX6_mean 25 = .ok (.aload_n 0, 1) := by decide +kernel
theorem dX6_mean_26 : decode cX6_mean 26 = .ok (.iload_n 1, 1) := by decide +kernel
theorem dX6_mean_27 : decode cX6_mean 27 = .ok (.iload_n 2, 1) := by decide +kernel
theorem dX6_mean_28 : decode cX6_mean 28 = .ok (.invokevirtual 185, 3) := by decide +kernel
theorem dX6_mean_31 : decode cX6_mean 31 = .ok (.goto 4, 3) := by decide +kernel
theorem dX6_mean_34 : decode cX6_mean 34 = .ok (.dconst 0, 1) := by decide +kernel
theorem dX6_mean_35 : decode cX6_mean 35 = .ok (.dreturn, 1) := by decide +kernel
theorem dX6_lift_0 : decode cX6_lift 0 = .ok (.aload_n 0, 1) := by decide +kernel
theorem dX6_lift_1 : decode cX6_lift 1 = .ok (.aload_n 0, 1) := by decide +kernel
theorem dX6_lift_2 : decode cX6_lift 2 = .ok (.iload_n 1, 1) := by decide +kernel
theorem dX6_lift_3 : decode cX6_lift 3 = .ok (.iload_n 2, 1) := by decide +kernel
theorem dX6_lift_4 : decode cX6_lift 4 = .ok (.invokevirtual 102, 3) := by decide +kernel
theorem dX6_lift_7 : decode cX6_lift 7 = .ok (.ifCond .eq 7, 3) := by decide +kernel
theorem dX6_lift_10 : decode cX6_lift 10 = .ok (.iconst 0, 1) := by decide +kernel
theorem dX6_lift_11 : decode cX6_lift 11 = .ok (.goto 4, 3) := by decide +kernel
theorem dX6_lift_14 : decode cX6_lift 14 = .ok (.iconst 1, 1) := by decide +kernel
theorem dX6_lift_15 : decode cX6_lift 15 = .ok (.putfield 80, 3) := by decide +kernel
theorem dX6_lift_18 : decode cX6_lift 18 = .ok (.aload_n 0, 1) := by decide +kernel
theorem dX6_lift_19 : decode cX6_lift 19 = .ok (.getfield 80, 3) := by decide +kernel
theorem dX6_lift_22 : decode cX6_lift 22 = .ok (.ifCond .ne 19, 3) := by decide +kernel
theorem dX6_lift_25 : decode cX6_lift 25 = .ok (.aload_n 0, 1) := by decide +kernel
theorem dX6_lift_26 : decode cX6_lift 26 = .ok (.iload_n 1, 1) := by decide +kernel
theorem dX6_lift_27 : decode cX6_lift 27 = .ok (.iload_n 2, 1) := by decide +kernel
theorem dX6_lift_28 : decode cX6_lift 28 = .ok (.invokevirtual 185, 3) := by decide +kernel
theorem dX6_lift_31 : decode cX6_lift 31 = .ok (.aload_n 0, 1) := by decide +kernel
theorem dX6_lift_32 : decode cX6_lift 32 = .ok (.iload_n 1, 1) := by decide +kernel
theorem dX6_lift_33 : decode cX6_lift 33 = .ok (.iconst 0, 1) := by decide +kernel
theorem dX6_lift_34 : decode cX6_lift 34 = .ok (.invokevirtual 185, 3) := by decide +kernel
theorem dX6_lift_37 : decode cX6_lift 37 = .ok (.dsub, 1) := by decide +kernel
theorem dX6_lift_38 : decode cX6_lift 38 = .ok (.goto 4, 3) := by decide +kernel
theorem dX6_lift_41 : decode cX6_lift 41 = .ok (.dconst 0, 1) := by decide +kernel
theorem dX6_lift_42 : decode cX6_lift 42 = .ok (.dreturn, 1) := by decide +kernel
theorem dX6_sure_0 : decode cX6_sure 0 = .ok (.aload_n 0, 1) := by decide +kernel
theorem dX6_sure_1 : decode cX6_sure 1 = .ok (.aload_n 0, 1) := by decide +kernel
theorem dX6_sure_2 : decode cX6_sure 2 = .ok (.iload_n 1, 1) := by decide +kernel
theorem dX6_sure_3 : decode cX6_sure 3 = .ok (.iload_n 2, 1) := by decide +kernel
theorem dX6_sure_4 : decode cX6_sure 4 = .ok (.invokevirtual 102, 3) := by decide +kernel
theorem dX6_sure_7 : decode cX6_sure 7 = .ok (.ifCond .eq 7, 3) := by decide +kernel
theorem dX6_sure_10 : decode cX6_sure 10 = .ok (.iconst 0, 1) := by decide +kernel
theorem dX6_sure_11 : decode cX6_sure 11 = .ok (.goto 4, 3) := by decide +kernel
theorem dX6_sure_14 : decode cX6_sure 14 = .ok (.iconst 1, 1) := by decide +kernel
theorem dX6_sure_15 : decode cX6_sure 15 = .ok (.putfield 80, 3) := by decide +kernel
theorem dX6_sure_18 : decode cX6_sure 18 = .ok (.aload_n 0, 1) := by decide +kernel
theorem dX6_sure_19 : decode cX6_sure 19 = .ok (.getfield 80, 3) := by decide +kernel
theorem dX6_sure_22 : decode cX6_sure 22 = .ok (.ifCond .eq 5, 3) := by decide +kernel
theorem dX6_sure_25 : decode cX6_sure 25 = .ok (.dconst 0, 1) := by decide +kernel
theorem dX6_sure_26 : decode cX6_sure 26 = .ok (.dreturn, 1) := by decide +kernel
theorem dX6_sure_27 : decode cX6_sure 27 = .ok (.aload_n 0, 1) := by decide +kernel
theorem dX6_sure_28 : decode cX6_sure 28 = .ok (.iload_n 1, 1) := by decide +kernel
theorem dX6_sure_29 : decode cX6_sure 29 = .ok (.iload_n 2, 1) := by decide +kernel
theorem dX6_sure_30 : decode cX6_sure 30 = .ok (.iconst 0, 1) := by decide +kernel
theorem dX6_sure_31 : decode cX6_sure 31 = .ok (.invokevirtual 182, 3) := by decide +kernel
theorem dX6_sure_34 : decode cX6_sure 34 = .ok (.istore_n 3, 1) := by decide +kernel
theorem dX6_sure_35 : decode cX6_sure 35 = .ok (.aload_n 0, 1) := by decide +kernel
theorem dX6_sure_36 : decode cX6_sure 36 = .ok (.iload_n 1, 1) := by decide +kernel
theorem dX6_sure_37 : decode cX6_sure 37 = .ok (.iconst 0, 1) := by decide +kernel
theorem dX6_sure_38 : decode cX6_sure 38 = .ok (.iconst 0, 1) := by decide +kernel
theorem dX6_sure_39 : decode cX6_sure 39 = .ok (.invokevirtual 182, 3) := by decide +kernel
theorem dX6_sure_42 : decode cX6_sure 42 = .ok (.istore 4, 2) := by decide +kernel
theorem dX6_sure_44 : decode cX6_sure 44 = .ok (.iload_n 3, 1) := by decide +kernel
theorem dX6_sure_45 : decode cX6_sure 45 = .ok (.ifCond .eq 8, 3) := by decide +kernel
theorem dX6_sure_48 : decode cX6_sure 48 = .ok (.iload 4, 2) := by decide +kernel
theorem dX6_sure_50 : decode cX6_sure 50 = .ok (.ifCond .ne 5, 3) := by decide +kernel
theorem dX6_sure_53 : decode cX6_sure 53 = .ok (.dconst 0, 1) := by decide +kernel
theorem dX6_sure_54 : decode cX6_sure 54 = .ok (.dreturn, 1) := by decide +kernel
theorem dX6_sure_55 : decode cX6_sure 55 = .ok (.aload_n 0, 1) := by decide +kernel
theorem dX6_sure_56 : decode cX6_sure 56 = .ok (.iload_n 1, 1) := by decide +kernel
theorem dX6_sure_57 : decode cX6_sure 57 = .ok (.iload_n 2, 1) := by decide +kernel
theorem dX6_sure_58 : decode cX6_sure 58 = .ok (.invokevirtual 189, 3) := by decide +kernel
theorem dX6_sure_61 : decode cX6_sure 61 = .ok (.iload_n 3, 1) := by decide +kernel
theorem dX6_sure_62 : decode cX6_sure 62 = .ok (.i2d, 1) := by decide +kernel
theorem dX6_sure_63 : decode cX6_sure 63 = .ok (.ddiv, 1) := by decide +kernel
theorem dX6_sure_64 : decode cX6_sure 64 = .ok (.aload_n 0, 1) := by decide +kernel
theorem dX6_sure_65 : decode cX6_sure 65 = .ok (.iload_n 1, 1) := by decide +kernel
theorem dX6_sure_66 : decode cX6_sure 66 = .ok (.iconst 0, 1) := by decide +kernel
theorem dX6_sure_67 : decode cX6_sure 67 = .ok (.invokevirtual 189, 3) := by decide +kernel
theorem dX6_sure_70 : decode cX6_sure 70 = .ok (.iload 4, 2) := by decide +kernel
theorem dX6_sure_72 : decode cX6_sure 72 = .ok (.i2d, 1) := by decide +kernel
theorem dX6_sure_73 : decode cX6_sure 73 = .ok (.ddiv, 1) := by decide +kernel
theorem dX6_sure_74 : decode cX6_sure 74 = .ok (.dadd, 1) := by decide +kernel
theorem dX6_sure_75 : decode cX6_sure 75 = .ok (.dstore 5, 2) := by decide +kernel
theorem dX6_sure_77 : decode cX6_sure 77 = .ok (.aload_n 0, 1) := by decide +kernel
theorem dX6_sure_78 : decode cX6_sure 78 = .ok (.iload_n 1, 1) := by decide +kernel
theorem dX6_sure_79 : decode cX6_sure 79 = .ok (.iload_n 2, 1) := by decide +kernel
theorem dX6_sure_80 : decode cX6_sure 80 = .ok (.invokevirtual 185, 3) := by decide +kernel
theorem dX6_sure_83 : decode cX6_sure 83 = .ok (.aload_n 0, 1) := by decide +kernel
theorem dX6_sure_84 : decode cX6_sure 84 = .ok (.iload_n 1, 1) := by decide +kernel
theorem dX6_sure_85 : decode cX6_sure 85 = .ok (.iconst 0, 1) := by decide +kernel
theorem dX6_sure_86 : decode cX6_sure 86 = .ok (.invokevirtual 185, 3) := by decide +kernel
theorem dX6_sure_89 : decode cX6_sure 89 = .ok (.dsub, 1) := by decide +kernel
theorem dX6_sure_90 : decode cX6_sure 90 = .ok (.dstore 7, 2) := by decide +kernel
theorem dX6_sure_92 : decode cX6_sure 92 = .ok (.dload 5, 2) := by decide +kernel
theorem dX6_sure_94 : decode cX6_sure 94 = .ok (.dconst 0, 1) := by decide +kernel
theorem dX6_sure_95 : decode cX6_sure 95 = .ok (.dcmp .l, 1) := by decide +kernel
theorem dX6_sure_96 : decode cX6_sure 96 = .ok (.ifCond .ne 7, 3) := by decide +kernel
theorem dX6_sure_99 : decode cX6_sure 99 = .ok (.dconst 0, 1) := by decide +kernel
theorem dX6_sure_100 : decode cX6_sure 100 = .ok (.goto 11, 3) := by decide +kernel
theorem dX6_sure_103 : decode cX6_sure 103 = .ok (.dload 7, 2) := by decide +kernel
theorem dX6_sure_105 : decode cX6_sure 105 = .ok (.dload 7, 2) := by decide +kernel
theorem dX6_sure_107 : decode cX6_sure 107 = .ok (.dmul, 1) := by decide +kernel
theorem dX6_sure_108 : decode cX6_sure 108 = .ok (.dload 5, 2) := by decide +kernel
theorem dX6_sure_110 : decode cX6_sure 110 = .ok (.ddiv, 1) := by decide +kernel
theorem dX6_sure_111 : decode cX6_sure 111 = .ok (.dreturn, 1) := by decide +kernel
theorem dX6_badNow_0 : decode cX6_badNow 0 = .ok (.iconst 0, 1) := by decide +kernel
theorem dX6_badNow_1 : decode cX6_badNow 1 = .ok (.istore_n 2, 1) := by decide +kernel
theorem dX6_badNow_2 : decode cX6_badNow 2 = .ok (.iconst 0, 1) := by decide +kernel
theorem dX6_badNow_3 : decode cX6_badNow 3 = .ok (.istore_n 3, 1) := by decide +kernel
theorem dX6_badNow_4 : decode cX6_badNow 4 = .ok (.iload_n 3, 1) := by decide +kernel
theorem dX6_badNow_5 : decode cX6_badNow 5 = .ok (.aload_n 0, 1) := by decide +kernel
theorem dX6_badNow_6 : decode cX6_badNow 6 = .ok (.getfield 13, 3) := by decide +kernel
theorem dX6_badNow_9 : decode cX6_badNow 9 = .ok (.iload_n 1, 1) := by decide +kernel
theorem dX6_badNow_10 : decode cX6_badNow 10 = .ok (.iaload, 1) := by decide +kernel
theorem dX6_badNow_11 : decode cX6_badNow 11 = .ok (.if_icmp .ge 19, 3) := by decide +kernel
theorem dX6_badNow_14 : decode cX6_badNow 14 = .ok (.iload_n 2, 1) := by decide +kernel
theorem dX6_badNow_15 : decode cX6_badNow 15 = .ok (.aload_n 0, 1) := by decide +kernel
theorem dX6_badNow_16 : decode cX6_badNow 16 = .ok (.iload_n 1, 1) := by decide +kernel
theorem dX6_badNow_17 : decode cX6_badNow 17 = .ok (.iload_n 3, 1) := by decide +kernel
theorem dX6_badNow_18 : decode cX6_badNow 18 = .ok (.iconst 0, 1) := by decide +kernel
theorem dX6_badNow_19 : decode cX6_badNow 19 = .ok (.invokevirtual 182, 3) := by decide +kernel
theorem dX6_badNow_22 : decode cX6_badNow 22 = .ok (.iadd, 1) := by decide +kernel
theorem dX6_badNow_23 : decode cX6_badNow 23 = .ok (.istore_n 2, 1) := by decide +kernel
theorem dX6_badNow_24 : decode cX6_badNow 24 = .ok (.iinc 3 1, 3) := by decide +kernel
theorem dX6_badNow_27 : decode cX6_badNow 27 = .ok (.goto (-23), 3) := by decide +kernel
theorem dX6_badNow_30 : decode cX6_badNow 30 = .ok (.lconst 0, 1) := by decide +kernel
theorem dX6_badNow_31 : decode cX6_badNow 31 = .ok (.lstore_n 3, 1) := by decide +kernel
theorem dX6_badNow_32 : decode cX6_badNow 32 = .ok (.iconst 0, 1) := by decide +kernel
theorem dX6_badNow_33 : decode cX6_badNow 33 = .ok (.istore 5, 2) := by decide +kernel
theorem dX6_badNow_35 : decode cX6_badNow 35 = .ok (.iload 5, 2) := by decide +kernel
theorem dX6_badNow_37 : decode cX6_badNow 37 = .ok (.aload_n 0, 1) := by decide +kernel
theorem dX6_badNow_38 : decode cX6_badNow 38 = .ok (.getfield 13, 3) := by decide +kernel
theorem dX6_badNow_41 : decode cX6_badNow 41 = .ok (.iload_n 1, 1) := by decide +kernel
theorem dX6_badNow_42 : decode cX6_badNow 42 = .ok (.iaload, 1) := by decide +kernel
theorem dX6_badNow_43 : decode cX6_badNow 43 = .ok (.if_icmp .ge 73, 3) := by decide +kernel
theorem dX6_badNow_46 : decode cX6_badNow 46 = .ok (.iload_n 2, 1) := by decide +kernel
theorem dX6_badNow_47 : decode cX6_badNow 47 = .ok (.ifCond .le 69, 3) := by decide +kernel
theorem dX6_badNow_50 : decode cX6_badNow 50 = .ok (.aload_n 0, 1) := by decide +kernel
theorem dX6_badNow_51 : decode cX6_badNow 51 = .ok (.getfield 16, 3) := by decide +kernel
theorem dX6_badNow_54 : decode cX6_badNow 54 = .ok (.iload_n 1, 1) := by decide +kernel
theorem dX6_badNow_55 : decode cX6_badNow 55 = .ok (.iconst 4, 1) := by decide +kernel
theorem dX6_badNow_56 : decode cX6_badNow 56 = .ok (.imul, 1) := by decide +kernel
theorem dX6_badNow_57 : decode cX6_badNow 57 = .ok (.iload 5, 2) := by decide +kernel
theorem dX6_badNow_59 : decode cX6_badNow 59 = .ok (.iadd, 1) := by decide +kernel
theorem dX6_badNow_60 : decode cX6_badNow 60 = .ok (.iaload, 1) := by decide +kernel
theorem dX6_badNow_61 : decode cX6_badNow 61 = .ok (.i2l, 1) := by decide +kernel
theorem dX6_badNow_62 : decode cX6_badNow 62 = .ok (.lstore 6, 2) := by decide +kernel
theorem dX6_badNow_64 : decode cX6_badNow 64 = .ok (.aload_n 0, 1) := by decide +kernel
theorem dX6_badNow_65 : decode cX6_badNow 65 = .ok (.iload_n 1, 1) := by decide +kernel
theorem dX6_badNow_66 : decode cX6_badNow 66 = .ok (.iload 5, 2) := by decide +kernel
theorem dX6_badNow_68 : decode cX6_badNow 68 = .ok (.iconst 0, 1) := by decide +kernel
theorem dX6_badNow_69 : decode cX6_badNow 69 = .ok (.invokevirtual 182, 3) := by decide +kernel
theorem dX6_badNow_72 : decode cX6_badNow 72 = .ok (.i2l, 1) := by decide +kernel
theorem dX6_badNow_73 : decode cX6_badNow 73 = .ok (.ldc2_w 109, 3) := by decide +kernel
theorem dX6_badNow_76 : decode cX6_badNow 76 = .ok (.lmul, 1) := by decide +kernel
theorem dX6_badNow_77 : decode cX6_badNow 77 = .ok (.iload_n 2, 1) := by decide +kernel
theorem dX6_badNow_78 : decode cX6_badNow 78 = .ok (.i2l, 1) := by decide +kernel
theorem dX6_badNow_79 : decode cX6_badNow 79 = .ok (.lload 6, 2) := by decide +kernel
theorem dX6_badNow_81 : decode cX6_badNow 81 = .ok (.lmul, 1) := by decide +kernel
theorem dX6_badNow_82 : decode cX6_badNow 82 = .ok (.lsub, 1) := by decide +kernel
theorem dX6_badNow_83 : decode cX6_badNow 83 = .ok (.lstore 8, 2) := by decide +kernel
theorem dX6_badNow_85 : decode cX6_badNow 85 = .ok (.lload 6, 2) := by decide +kernel
theorem dX6_badNow_87 : decode cX6_badNow 87 = .ok (.lconst 0, 1) := by decide +kernel
theorem dX6_badNow_88 : decode cX6_badNow 88 = .ok (.lcmp, 1) := by decide +kernel
theorem dX6_badNow_89 : decode cX6_badNow 89 = .ok (.ifCond .le 21, 3) := by decide +kernel
theorem dX6_badNow_92 : decode cX6_badNow 92 = .ok (.lload_n 3, 1) := by decide +kernel
theorem dX6_badNow_93 : decode cX6_badNow 93 = .ok (.lload 8, 2) := by decide +kernel
theorem dX6_badNow_95 : decode cX6_badNow 95 = .ok (.lload 8, 2) := by decide +kernel
theorem dX6_badNow_97 : decode cX6_badNow 97 = .ok (.lmul, 1) := by decide +kernel
theorem dX6_badNow_98 : decode cX6_badNow 98 = .ok (.iload_n 2, 1) := by decide +kernel
theorem dX6_badNow_99 : decode cX6_badNow 99 = .ok (.i2l, 1) := by decide +kernel
theorem dX6_badNow_100 : decode cX6_badNow 100 = .ok (.lload 6, 2) := by decide +kernel
theorem dX6_badNow_102 : decode cX6_badNow 102 = .ok (.lmul, 1) := by decide +kernel
theorem dX6_badNow_103 : decode cX6_badNow 103 = .ok (.ldc2_w 192, 3) := by decide +kernel
theorem dX6_badNow_106 : decode cX6_badNow 106 = .ok (.lmul, 1) := by decide +kernel
theorem dX6_badNow_107 : decode cX6_badNow 107 = .ok (.ldiv, 1) := by decide +kernel
theorem dX6_badNow_108 : decode cX6_badNow 108 = .ok (.ladd, 1) := by decide +kernel
theorem dX6_badNow_109 : decode cX6_badNow 109 = .ok (.lstore_n 3, 1) := by decide +kernel
theorem dX6_badNow_110 : decode cX6_badNow 110 = .ok (.iinc 5 1, 3) := by decide +kernel
theorem dX6_badNow_113 : decode cX6_badNow 113 = .ok (.goto (-78), 3) := by decide +kernel
theorem dX6_badNow_116 : decode cX6_badNow 116 = .ok (.lload_n 3, 1) := by decide +kernel
theorem dX6_badNow_117 : decode cX6_badNow 117 = .ok (.l2i, 1) := by decide +kernel
theorem dX6_badNow_118 : decode cX6_badNow 118 = .ok (.ireturn, 1) := by decide +kernel
theorem dX6_bad_0 : decode cX6_bad 0 = .ok (.aload_n 0, 1) := by decide +kernel
theorem dX6_bad_1 : decode cX6_bad 1 = .ok (.iconst 0, 1) := by decide +kernel
theorem dX6_bad_2 : decode cX6_bad 2 = .ok (.putfield 80, 3) := by decide +kernel
theorem dX6_bad_5 : decode cX6_bad 5 = .ok (.aload_n 0, 1) := by decide +kernel
theorem dX6_bad_6 : decode cX6_bad 6 = .ok (.iload_n 1, 1) := by decide +kernel
theorem dX6_bad_7 : decode cX6_bad 7 = .ok (.invokevirtual 91, 3) := by decide +kernel
theorem dX6_bad_10 : decode cX6_bad 10 = .ok (.ifCond .eq 11, 3) := by decide +kernel
theorem dX6_bad_13 : decode cX6_bad 13 = .ok (.aload_n 0, 1) := by decide +kernel
theorem dX6_bad_14 : decode cX6_bad 14 = .ok (.iload_n 1, 1) := by decide +kernel
theorem dX6_bad_15 : decode cX6_bad 15 = .ok (.invokevirtual 194, 3) := by decide +kernel
theorem dX6_bad_18 : decode cX6_bad 18 = .ok (.goto 8, 3) := by decide +kernel
theorem dX6_bad_21 : decode cX6_bad 21 = .ok (.aload_n 0, 1) := by decide +kernel
theorem dX6_bad_22 : decode cX6_bad 22 = .ok (.iconst 1, 1) := by decide +kernel
theorem dX6_bad_23 : decode cX6_bad 23 = .ok (.invokevirtual 95, 3) := by decide +kernel
theorem dX6_bad_26 : decode cX6_bad 26 = .ok (.ireturn, 1) := by decide +kernel
theorem dX6_isTrustedNow_0 : decode cX6_isTrustedNow 0 = .ok (.iconst 0, 1) := by decide +kernel
theorem dX6_isTrustedNow_1 : decode cX6_isTrustedNow 1 = .ok (.istore_n 2, 1) := by decide +kernel
theorem dX6_isTrustedNow_2 : decode cX6_isTrustedNow 2 = .ok (.iconst 0, 1) := by decide +kernel
theorem dX6_isTrustedNow_3 : decode cX6_isTrustedNow 3 = .ok (.istore_n 3, 1) := by decide +kernel
theorem dX6_isTrustedNow_4 : decode cX6_isTrustedNow 4 = .ok (.iload_n 3, 1) := by decide +kernel
theorem dX6_isTrustedNow_5 : decode cX6_isTrustedNow 5 = .ok (.aload_n 0, 1) := by decide +kernel
theorem dX6_isTrustedNow_6 : decode cX6_isTrustedNow 6 = .ok (.getfield 13, 3) := by decide +kernel
theorem dX6_isTrustedNow_9 : decode cX6_isTrustedNow 9 = .ok (.iload_n 1, 1) := by decide +kernel
theorem dX6_isTrustedNow_10 : decode cX6_isTrustedNow 10 = .ok (.iaload, 1) := by decide +kernel
theorem dX6_isTrustedNow_11 : decode cX6_isTrustedNow 11 = .ok (.if_icmp .ge 55, 3) := by decide +kernel
theorem dX6_isTrustedNow_14 : decode cX6_isTrustedNow 14 = .ok (.iload_n 2, 1) := by decide +kernel
theorem dX6_isTrustedNow_15 : decode cX6_isTrustedNow 15 = .ok (.aload_n 0, 1) := by decide +kernel
theorem dX6_isTrustedNow_16 : decode cX6_isTrustedNow 16 = .ok (.getfield 16, 3) := by decide +kernel
theorem dX6_isTrustedNow_19 : decode cX6_isTrustedNow 19 = .ok (.iload_n 1, 1) := by decide +kernel
theorem dX6_isTrustedNow_20 : decode cX6_isTrustedNow 20 = .ok (.iconst 4, 1) := by decide +kernel
theorem dX6_isTrustedNow_21 : decode cX6_isTrustedNow 21 = .ok (.imul, 1) := by decide +kernel
theorem dX6_isTrustedNow_22 : decode cX6_isTrustedNow 22 = .ok (.iload_n 3, 1) := by decide +kernel
theorem dX6_isTrustedNow_23 : decode cX6_isTrustedNow 23 = .ok (.iadd, 1) := by decide +kernel
theorem dX6_isTrustedNow_24 : decode cX6_isTrustedNow 24 = .ok (.iaload, 1) := by decide +kernel
theorem dX6_isTrustedNow_25 : decode cX6_isTrustedNow 25 = .ok (.ifCond .le 7, 3) := by decide +kernel
theorem dX6_isTrustedNow_28 : decode cX6_isTrustedNow 28 = .ok (.iconst 1, 1) := by decide +kernel
theorem dX6_isTrustedNow_29 : decode cX6_isTrustedNow 29 = .ok (.goto 4, 3) := by decide +kernel
theorem dX6_isTrustedNow_32 : decode cX6_isTrustedNow 32 = .ok (.iconst 0, 1) := by decide +kernel
theorem dX6_isTrustedNow_33 : decode cX6_isTrustedNow 33 = .ok (.iadd, 1) := by decide +kernel
theorem dX6_isTrustedNow_34 : decode cX6_isTrustedNow 34 = .ok (.istore_n 2, 1) := by decide +kernel
theorem dX6_isTrustedNow_35 : decode cX6_isTrustedNow 35 = .ok (.aload_n 0, 1) := by decide +kernel
theorem dX6_isTrustedNow_36 : decode cX6_isTrustedNow 36 = .ok (.getfield 16, 3) := by decide +kernel
theorem dX6_isTrustedNow_39 : decode cX6_isTrustedNow 39 = .ok (.iload_n 1, 1) := by decide +kernel
theorem dX6_isTrustedNow_40 : decode cX6_isTrustedNow 40 = .ok (.iconst 4, 1) := by decide +kernel
theorem dX6_isTrustedNow_41 : decode cX6_isTrustedNow 41 = .ok (.imul, 1) := by decide +kernel
theorem dX6_isTrustedNow_42 : decode cX6_isTrustedNow 42 = .ok (.iload_n 3, 1) := by decide +kernel
theorem dX6_isTrustedNow_43 : decode cX6_isTrustedNow 43 = .ok (.iadd, 1) := by decide +kernel
theorem dX6_isTrustedNow_44 : decode cX6_isTrustedNow 44 = .ok (.iaload, 1) := by decide +kernel
theorem dX6_isTrustedNow_45 : decode cX6_isTrustedNow 45 = .ok (.ifCond .ne 15, 3) := by decide +kernel
theorem dX6_isTrustedNow_48 : decode cX6_isTrustedNow 48 = .ok (.aload_n 0, 1) := by decide +kernel
theorem dX6_isTrustedNow_49 : decode cX6_isTrustedNow 49 = .ok (.iload_n 1, 1) := by decide +kernel
theorem dX6_isTrustedNow_50 : decode cX6_isTrustedNow 50 = .ok (.iload_n 3, 1) := by decide +kernel
theorem dX6_isTrustedNow_51 : decode cX6_isTrustedNow 51 = .ok (.iconst 0, 1) := by decide +kernel
theorem dX6_isTrustedNow_52 : decode cX6_isTrustedNow 52 = .ok (.invokevirtual 182, 3) := by decide +kernel
theorem dX6_isTrustedNow_55 : decode cX6_isTrustedNow 55 = .ok (.ifCond .le 5, 3) := by decide +kernel
theorem dX6_isTrustedNow_58 : decode cX6_isTrustedNow 58 = .ok (.iconst 0, 1) := by decide +kernel
theorem dX6_isTrustedNow_59 : decode cX6_isTrustedNow 59 = .ok (.ireturn, 1) := by decide +kernel
theorem dX6_isTrustedNow_60 : decode cX6_isTrustedNow 60 = .ok (.iinc 3 1, 3) := by decide +kernel
theorem dX6_isTrustedNow_63 : decode cX6_isTrustedNow 63 = .ok (.goto (-59), 3) := by decide +kernel
theorem dX6_isTrustedNow_66 : decode cX6_isTrustedNow 66 = .ok (.iload_n 2, 1) := by decide +kernel
theorem dX6_isTrustedNow_67 : decode cX6_isTrustedNow 67 = .ok (.iconst 1, 1) := by decide +kernel
theorem dX6_isTrustedNow_68 : decode cX6_isTrustedNow 68 = .ok (.if_icmp .eq 36, 3) := by decide +kernel
theorem dX6_isTrustedNow_71 : decode cX6_isTrustedNow 71 = .ok (.aload_n 0, 1) := by decide +kernel
theorem dX6_isTrustedNow_72 : decode cX6_isTrustedNow 72 = .ok (.iload_n 1, 1) := by decide +kernel
theorem dX6_isTrustedNow_73 : decode cX6_isTrustedNow 73 = .ok (.invokevirtual 194, 3) := by decide +kernel
theorem dX6_isTrustedNow_76 : decode cX6_isTrustedNow 76 = .ok (.iload_n 2, 1) := by decide +kernel
theorem dX6_isTrustedNow_77 : decode cX6_isTrustedNow 77 = .ok (.iconst 2, 1) := by decide +kernel
theorem dX6_isTrustedNow_78 : decode cX6_isTrustedNow 78 = .ok (.if_icmp .ne 9, 3) := by decide +kernel
theorem dX6_isTrustedNow_81 : decode cX6_isTrustedNow 81 = .ok (.sipush 384, 3) := by decide +kernel
theorem dX6_isTrustedNow_84 : decode cX6_isTrustedNow 84 = .ok (.goto 17, 3) := by decide +kernel
theorem dX6_isTrustedNow_87 : decode cX6_isTrustedNow 87 = .ok (.iload_n 2, 1) := by decide +kernel
theorem dX6_isTrustedNow_88 : decode cX6_isTrustedNow 88 = .ok (.iconst 3, 1) := by decide +kernel
theorem dX6_isTrustedNow_89 : decode cX6_isTrustedNow 89 = .ok (.if_icmp .ne 9, 3) := by decide +kernel
theorem dX6_isTrustedNow_92 : decode cX6_isTrustedNow 92 = .ok (.sipush 599, 3) := by decide +kernel
theorem dX6_isTrustedNow_95 : decode cX6_isTrustedNow 95 = .ok (.goto 6, 3) := by decide +kernel
theorem dX6_isTrustedNow_98 : decode cX6_isTrustedNow 98 = .ok (.sipush 781, 3) := by decide +kernel
theorem dX6_isTrustedNow_101 : decode cX6_isTrustedNow 101 = .ok (.if_icmp .gt 7, 3) := by decide +kernel
theorem dX6_isTrustedNow_104 : decode cX6_isTrustedNow 104 = .ok (.iconst 1, 1) := by decide +kernel
theorem dX6_isTrustedNow_105 : decode cX6_isTrustedNow 105 = .ok (.goto 4, 3) := by decide +kernel
theorem dX6_isTrustedNow_108 : decode cX6_isTrustedNow 108 = .ok (.iconst 0, 1) := by decide +kernel
theorem dX6_isTrustedNow_109 : decode cX6_isTrustedNow 109 = .ok (.ireturn, 1) := by decide +kernel
theorem dX6_isTrusted_0 : decode cX6_isTrusted 0 = .ok (.aload_n 0, 1) := by decide +kernel
theorem dX6_isTrusted_1 : decode cX6_isTrusted 1 = .ok (.iconst 0, 1) := by decide +kernel
theorem dX6_isTrusted_2 : decode cX6_isTrusted 2 = .ok (.putfield 80, 3) := by decide +kernel
theorem dX6_isTrusted_5 : decode cX6_isTrusted 5 = .ok (.aload_n 0, 1) := by decide +kernel
theorem dX6_isTrusted_6 : decode cX6_isTrusted 6 = .ok (.iload_n 1, 1) := by decide +kernel
theorem dX6_isTrusted_7 : decode cX6_isTrusted 7 = .ok (.invokevirtual 91, 3) := by decide +kernel
theorem dX6_isTrusted_10 : decode cX6_isTrusted 10 = .ok (.ifCond .eq 11, 3) := by decide +kernel
theorem dX6_isTrusted_13 : decode cX6_isTrusted 13 = .ok (.aload_n 0, 1) := by decide +kernel
theorem dX6_isTrusted_14 : decode cX6_isTrusted 14 = .ok (.iload_n 1, 1) := by decide +kernel
theorem dX6_isTrusted_15 : decode cX6_isTrusted 15 = .ok (.invokevirtual 197, 3) := by decide +kernel
theorem dX6_isTrusted_18 : decode cX6_isTrusted 18 = .ok (.goto 8, 3) := by decide +kernel
theorem dX6_isTrusted_21 : decode cX6_isTrusted 21 = .ok (.aload_n 0, 1) := by decide +kernel
theorem dX6_isTrusted_22 : decode cX6_isTrusted 22 = .ok (.iconst 1, 1) := by decide +kernel
theorem dX6_isTrusted_23 : decode cX6_isTrusted 23 = .ok (.invokevirtual 106, 3) := by decide +kernel
theorem dX6_isTrusted_26 : decode cX6_isTrusted 26 = .ok (.ireturn, 1) := by decide +kernel
theorem dX6_bestNow_0 : decode cX6_bestNow 0 = .ok (.iconst (-1), 1) := by decide +kernel
theorem dX6_bestNow_1 : decode cX6_bestNow 1 = .ok (.istore_n 2, 1) := by decide +kernel
theorem dX6_bestNow_2 : decode cX6_bestNow 2 = .ok (.iconst 0, 1) := by decide +kernel
theorem dX6_bestNow_3 : decode cX6_bestNow 3 = .ok (.istore_n 3, 1) := by decide +kernel
theorem dX6_bestNow_4 : decode cX6_bestNow 4 = .ok (.iload_n 3, 1) := by decide +kernel
theorem dX6_bestNow_5 : decode cX6_bestNow 5 = .ok (.aload_n 0, 1) := by decide +kernel
theorem dX6_bestNow_6 : decode cX6_bestNow 6 = .ok (.getfield 13, 3) := by decide +kernel
theorem dX6_bestNow_9 : decode cX6_bestNow 9 = .ok (.iload_n 1, 1) := by decide +kernel
theorem dX6_bestNow_10 : decode cX6_bestNow 10 = .ok (.iaload, 1) := by decide +kernel
theorem dX6_bestNow_11 : decode cX6_bestNow 11 = .ok (.if_icmp .ge 42, 3) := by decide +kernel
theorem dX6_bestNow_14 : decode cX6_bestNow 14 = .ok (.aload_n 0, 1) := by decide +kernel
theorem dX6_bestNow_15 : decode cX6_bestNow 15 = .ok (.iload_n 1, 1) := by decide +kernel
theorem dX6_bestNow_16 : decode cX6_bestNow 16 = .ok (.iload_n 3, 1) := by decide +kernel
theorem dX6_bestNow_17 : decode cX6_bestNow 17 = .ok (.iconst 0, 1) := by decide +kernel
theorem dX6_bestNow_18 : decode cX6_bestNow 18 = .ok (.invokevirtual 182, 3) := by decide +kernel
theorem dX6_bestNow_21 : decode cX6_bestNow 21 = .ok (.ifCond .le 26, 3) := by decide +kernel
theorem dX6_bestNow_24 : decode cX6_bestNow 24 = .ok (.iload_n 2, 1) := by decide +kernel
theorem dX6_bestNow_25 : decode cX6_bestNow 25 = .ok (.iconst (-1), 1) := by decide +kernel
theorem dX6_bestNow_26 : decode cX6_bestNow 26 = .ok (.if_icmp .eq 19, 3) := by decide +kernel
theorem dX6_bestNow_29 : decode cX6_bestNow 29 = .ok (.aload_n 0, 1) := by decide +kernel
theorem dX6_bestNow_30 : decode cX6_bestNow 30 = .ok (.iload_n 1, 1) := by decide +kernel
theorem dX6_bestNow_31 : decode cX6_bestNow 31 = .ok (.iload_n 3, 1) := by decide +kernel
theorem dX6_bestNow_32 : decode cX6_bestNow 32 = .ok (.invokevirtual 185, 3) := by decide +kernel
theorem dX6_bestNow_35 : decode cX6_bestNow 35 = .ok (.aload_n 0, 1) := by decide +kernel
theorem dX6_bestNow_36 : decode cX6_bestNow 36 = .ok (.iload_n 1, 1) := by decide +kernel
theorem dX6_bestNow_37 : decode cX6_bestNow 37 = .ok (.iload_n 2, 1) := by decide +kernel
theorem dX6_bestNow_38 : decode cX6_bestNow 38 = .ok (.invokevirtual 185, 3) := by decide +kernel
theorem dX6_bestNow_41 : decode cX6_bestNow 41 = .ok (.dcmp .l, 1) := by decide +kernel
theorem dX6_bestNow_42 : decode cX6_bestNow 42 = .ok (.ifCond .le 5, 3) := by decide +kernel
theorem dX6_bestNow_45 : decode cX6_bestNow 45 = .ok (.iload_n 3, 1) := by decide +kernel
theorem dX6_bestNow_46 : decode cX6_bestNow 46 = .ok (.istore_n 2, 1) := by decide +kernel
theorem dX6_bestNow_47 : decode cX6_bestNow 47 = .ok (.iinc 3 1, 3) := by decide +kernel
theorem dX6_bestNow_50 : decode cX6_bestNow 50 = .ok (.goto (-46), 3) := by decide +kernel
theorem dX6_bestNow_53 : decode cX6_bestNow 53 = .ok (.iload_n 2, 1) := by decide +kernel
theorem dX6_bestNow_54 : decode cX6_bestNow 54 = .ok (.ireturn, 1) := by decide +kernel
theorem dX6_best_0 : decode cX6_best 0 = .ok (.aload_n 0, 1) := by decide +kernel
theorem dX6_best_1 : decode cX6_best 1 = .ok (.iconst 0, 1) := by decide +kernel
theorem dX6_best_2 : decode cX6_best 2 = .ok (.putfield 80, 3) := by decide +kernel
theorem dX6_best_5 : decode cX6_best 5 = .ok (.aload_n 0, 1) := by decide +kernel
theorem dX6_best_6 : decode cX6_best 6 = .ok (.iload_n 1, 1) := by decide +kernel
theorem dX6_best_7 : decode cX6_best 7 = .ok (.invokevirtual 91, 3) := by decide +kernel
theorem dX6_best_10 : decode cX6_best 10 = .ok (.ifCond .eq 11, 3) := by decide +kernel
theorem dX6_best_13 : decode cX6_best 13 = .ok (.aload_n 0, 1) := by decide +kernel
theorem dX6_best_14 : decode cX6_best 14 = .ok (.iload_n 1, 1) := by decide +kernel
theorem dX6_best_15 : decode cX6_best 15 = .ok (.invokevirtual 200, 3) := by decide +kernel
theorem dX6_best_18 : decode cX6_best 18 = .ok (.goto 8, 3) := by decide +kernel
theorem dX6_best_21 : decode cX6_best 21 = .ok (.aload_n 0, 1) := by decide +kernel
theorem dX6_best_22 : decode cX6_best 22 = .ok (.iconst 1, 1) := by decide +kernel
theorem dX6_best_23 : decode cX6_best 23 = .ok (.invokevirtual 95, 3) := by decide +kernel
theorem dX6_best_26 : decode cX6_best 26 = .ok (.ireturn, 1) := by decide +kernel
theorem dX6_getsBy_0 : decode cX6_getsBy 0 = .ok (.aload_n 0, 1) := by decide +kernel
theorem dX6_getsBy_1 : decode cX6_getsBy 1 = .ok (.iload_n 1, 1) := by decide +kernel
theorem dX6_getsBy_2 : decode cX6_getsBy 2 = .ok (.iload_n 2, 1) := by decide +kernel
theorem dX6_getsBy_3 : decode cX6_getsBy 3 = .ok (.iload_n 2, 1) := by decide +kernel
theorem dX6_getsBy_4 : decode cX6_getsBy 4 = .ok (.bipush 10, 2) := by decide +kernel
theorem dX6_getsBy_6 : decode cX6_getsBy 6 = .ok (.irem, 1) := by decide +kernel
theorem dX6_getsBy_7 : decode cX6_getsBy 7 = .ok (.iload_n 2, 1) := by decide +kernel
theorem dX6_getsBy_8 : decode cX6_getsBy 8 = .ok (.bipush 10, 2) := by decide +kernel
theorem dX6_getsBy_10 : decode cX6_getsBy 10 = .ok (.idiv, 1) := by decide +kernel
theorem dX6_getsBy_11 : decode cX6_getsBy 11 = .ok (.bipush 10, 2) := by decide +kernel
theorem dX6_getsBy_13 : decode cX6_getsBy 13 = .ok (.irem, 1) := by decide +kernel
theorem dX6_getsBy_14 : decode cX6_getsBy 14 = .ok (.invokevirtual 154, 3) := by decide +kernel
theorem dX6_getsBy_17 : decode cX6_getsBy 17 = .ok (.ireturn, 1) := by decide +kernel
theorem dX6_reachNow_0 : decode cX6_reachNow 0 = .ok (.iconst 0, 1) := by decide +kernel
theorem dX6_reachNow_1 : decode cX6_reachNow 1 = .ok (.istore 4, 2) := by decide +kernel
theorem dX6_reachNow_3 : decode cX6_reachNow 3 = .ok (.iconst 0, 1) := by decide +kernel
theorem dX6_reachNow_4 : decode cX6_reachNow 4 = .ok (.istore 5, 2) := by decide +kernel
theorem dX6_reachNow_6 : decode cX6_reachNow 6 = .ok (.iload 5, 2) := by decide +kernel
theorem dX6_reachNow_8 : decode cX6_reachNow 8 = .ok (.iload_n 3, 1) := by decide +kernel
theorem dX6_reachNow_9 : decode cX6_reachNow 9 = .ok (.if_icmp .ge 30, 3) := by decide +kernel
theorem dX6_reachNow_12 : decode cX6_reachNow 12 = .ok (.iload 4, 2) := by decide +kernel
theorem dX6_reachNow_14 : decode cX6_reachNow 14 = .ok (.aload_n 0, 1) := by decide +kernel
theorem dX6_reachNow_15 : decode cX6_reachNow 15 = .ok (.iload_n 1, 1) := by decide +kernel
theorem dX6_reachNow_16 : decode cX6_reachNow 16 = .ok (.iload 5, 2) := by decide +kernel
theorem dX6_reachNow_18 : decode cX6_reachNow 18 = .ok (.invokevirtual 203, 3) := by decide +kernel
theorem dX6_reachNow_21 : decode cX6_reachNow 21 = .ok (.iload_n 2, 1) := by decide +kernel
theorem dX6_reachNow_22 : decode cX6_reachNow 22 = .ok (.if_icmp .ne 7, 3) := by decide +kernel
theorem dX6_reachNow_25 : decode cX6_reachNow 25 = .ok (.iconst 1, 1) := by decide +kernel
theorem dX6_reachNow_26 : decode cX6_reachNow 26 = .ok (.goto 4, 3) := by decide +kernel
theorem dX6_reachNow_29 : decode cX6_reachNow 29 = .ok (.iconst 0, 1) := by decide +kernel
theorem dX6_reachNow_30 : decode cX6_reachNow 30 = .ok (.iadd, 1) := by decide +kernel
theorem dX6_reachNow_31 : decode cX6_reachNow 31 = .ok (.istore 4, 2) := by decide +kernel
theorem dX6_reachNow_33 : decode cX6_reachNow 33 = .ok (.iinc 5 1, 3) := by decide +kernel
theorem dX6_reachNow_36 : decode cX6_reachNow 36 = .ok (.goto (-30), 3) := by decide +kernel
theorem dX6_reachNow_39 : decode cX6_reachNow 39 = .ok (.iload 4, 2) := by decide +kernel
theorem dX6_reachNow_41 : decode cX6_reachNow 41 = .ok (.ireturn, 1) := by decide +kernel
theorem dX6_reach_0 : decode cX6_reach 0 = .ok (.aload_n 0, 1) := by decide +kernel
theorem dX6_reach_1 : decode cX6_reach 1 = .ok (.iconst 0, 1) := by decide +kernel
theorem dX6_reach_2 : decode cX6_reach 2 = .ok (.putfield 80, 3) := by decide +kernel
theorem dX6_reach_5 : decode cX6_reach 5 = .ok (.aload_n 0, 1) := by decide +kernel
theorem dX6_reach_6 : decode cX6_reach 6 = .ok (.iload_n 1, 1) := by decide +kernel
theorem dX6_reach_7 : decode cX6_reach 7 = .ok (.iload_n 2, 1) := by decide +kernel
theorem dX6_reach_8 : decode cX6_reach 8 = .ok (.invokevirtual 102, 3) := by decide +kernel
theorem dX6_reach_11 : decode cX6_reach 11 = .ok (.ifCond .ne 9, 3) := by decide +kernel
theorem dX6_reach_14 : decode cX6_reach 14 = .ok (.aload_n 0, 1) := by decide +kernel
theorem dX6_reach_15 : decode cX6_reach 15 = .ok (.iconst 1, 1) := by decide +kernel
theorem dX6_reach_16 : decode cX6_reach 16 = .ok (.invokevirtual 95, 3) := by decide +kernel
theorem dX6_reach_19 : decode cX6_reach 19 = .ok (.ireturn, 1) := by decide +kernel
theorem dX6_reach_20 : decode cX6_reach 20 = .ok (.iload_n 3, 1) := by decide +kernel
theorem dX6_reach_21 : decode cX6_reach 21 = .ok (.iconst 1, 1) := by decide +kernel
theorem dX6_reach_22 : decode cX6_reach 22 = .ok (.sipush 200, 3) := by decide +kernel
theorem dX6_reach_25 : decode cX6_reach 25 = .ok (.invokestatic 87, 3) := by decide +kernel
theorem dX6_reach_28 : decode cX6_reach 28 = .ok (.ifCond .eq 13, 3) := by decide +kernel
theorem dX6_reach_31 : decode cX6_reach 31 = .ok (.aload_n 0, 1) := by decide +kernel
theorem dX6_reach_32 : decode cX6_reach 32 = .ok (.iload_n 1, 1) := by decide +kernel
theorem dX6_reach_33 : decode cX6_reach 33 = .ok (.iload_n 2, 1) := by decide +kernel
theorem dX6_reach_34 : decode cX6_reach 34 = .ok (.iload_n 3, 1) := by decide +kernel
theorem dX6_reach_35 : decode cX6_reach 35 = .ok (.invokevirtual 206, 3) := by decide +kernel
theorem dX6_reach_38 : decode cX6_reach 38 = .ok (.goto 8, 3) := by decide +kernel
theorem dX6_reach_41 : decode cX6_reach 41 = .ok (.aload_n 0, 1) := by decide +kernel
theorem dX6_reach_42 : decode cX6_reach 42 = .ok (.iconst 2, 1) := by decide +kernel
theorem dX6_reach_43 : decode cX6_reach 43 = .ok (.invokevirtual 95, 3) := by decide +kernel
theorem dX6_reach_46 : decode cX6_reach 46 = .ok (.ireturn, 1) := by decide +kernel
theorem dX6_isSplit_0 : decode cX6_isSplit 0 = .ok (.aload_n 0, 1) := by decide +kernel
theorem dX6_isSplit_1 : decode cX6_isSplit 1 = .ok (.iload_n 1, 1) := by decide +kernel
theorem dX6_isSplit_2 : decode cX6_isSplit 2 = .ok (.iload_n 2, 1) := by decide +kernel
theorem dX6_isSplit_3 : decode cX6_isSplit 3 = .ok (.invokevirtual 203, 3) := by decide +kernel
theorem dX6_isSplit_6 : decode cX6_isSplit 6 = .ok (.pop, 1) := by decide +kernel
theorem dX6_isSplit_7 : decode cX6_isSplit 7 = .ok (.aload_n 0, 1) := by decide +kernel
theorem dX6_isSplit_8 : decode cX6_isSplit 8 = .ok (.getfield 165, 3) := by decide +kernel
theorem dX6_isSplit_11 : decode cX6_isSplit 11 = .ok (.bipush 8, 2) := by decide +kernel
theorem dX6_isSplit_13 : decode cX6_isSplit 13 = .ok (.if_icmp .ne 7, 3) := by decide +kernel
theorem dX6_isSplit_16 : decode cX6_isSplit 16 = .ok (.iconst 1, 1) := by decide +kernel
theorem dX6_isSplit_17 : decode cX6_isSplit 17 = .ok (.goto 4, 3) := by decide +kernel
theorem dX6_isSplit_20 : decode cX6_isSplit 20 = .ok (.iconst 0, 1) := by decide +kernel
theorem dX6_isSplit_21 : decode cX6_isSplit 21 = .ok (.ireturn, 1) := by decide +kernel
theorem dX6_both_0 : decode cX6_both 0 = .ok (.aload_n 0, 1) := by decide +kernel
theorem dX6_both_1 : decode cX6_both 1 = .ok (.iconst 0, 1) := by decide +kernel
theorem dX6_both_2 : decode cX6_both 2 = .ok (.putfield 80, 3) := by decide +kernel
theorem dX6_both_5 : decode cX6_both 5 = .ok (.aload_n 0, 1) := by decide +kernel
theorem dX6_both_6 : decode cX6_both 6 = .ok (.iload_n 1, 1) := by decide +kernel
theorem dX6_both_7 : decode cX6_both 7 = .ok (.invokevirtual 91, 3) := by decide +kernel
theorem dX6_both_10 : decode cX6_both 10 = .ok (.ifCond .eq 11, 3) := by decide +kernel
theorem dX6_both_13 : decode cX6_both 13 = .ok (.aload_n 0, 1) := by decide +kernel
theorem dX6_both_14 : decode cX6_both 14 = .ok (.iload_n 2, 1) := by decide +kernel
theorem dX6_both_15 : decode cX6_both 15 = .ok (.invokevirtual 91, 3) := by decide +kernel
theorem dX6_both_18 : decode cX6_both 18 = .ok (.ifCond .ne 9, 3) := by decide +kernel
theorem dX6_both_21 : decode cX6_both 21 = .ok (.aload_n 0, 1) := by decide +kernel
theorem dX6_both_22 : decode cX6_both 22 = .ok (.iconst 1, 1) := by decide +kernel
theorem dX6_both_23 : decode cX6_both 23 = .ok (.invokevirtual 95, 3) := by decide +kernel
theorem dX6_both_26 : decode cX6_both 26 = .ok (.ireturn, 1) := by decide +kernel
theorem dX6_both_27 : decode cX6_both 27 = .ok (.iload_n 3, 1) := by decide +kernel
theorem dX6_both_28 : decode cX6_both 28 = .ok (.iconst 1, 1) := by decide +kernel
theorem dX6_both_29 : decode cX6_both 29 = .ok (.sipush 200, 3) := by decide +kernel
theorem dX6_both_32 : decode cX6_both 32 = .ok (.invokestatic 87, 3) := by decide +kernel
theorem dX6_both_35 : decode cX6_both 35 = .ok (.ifCond .ne 9, 3) := by decide +kernel
theorem dX6_both_38 : decode cX6_both 38 = .ok (.aload_n 0, 1) := by decide +kernel
theorem dX6_both_39 : decode cX6_both 39 = .ok (.iconst 2, 1) := by decide +kernel
theorem dX6_both_40 : decode cX6_both 40 = .ok (.invokevirtual 95, 3) := by decide +kernel
theorem dX6_both_43 : decode cX6_both 43 = .ok (.ireturn, 1) := by decide +kernel
theorem dX6_both_44 : decode cX6_both 44 = .ok (.iconst 0, 1) := by decide +kernel
theorem dX6_both_45 : decode cX6_both 45 = .ok (.istore 4, 2) := by decide +kernel
theorem dX6_both_47 : decode cX6_both 47 = .ok (.iconst 0, 1) := by decide +kernel
theorem dX6_both_48 : decode cX6_both 48 = .ok (.istore 5, 2) := by decide +kernel
theorem dX6_both_50 : decode cX6_both 50 = .ok (.iload 5, 2) := by decide +kernel
theorem dX6_both_52 : decode cX6_both 52 = .ok (.iload_n 3, 1) := by decide +kernel
theorem dX6_both_53 : decode cX6_both 53 = .ok (.if_icmp .ge 39, 3) := by decide +kernel
theorem dX6_both_56 : decode cX6_both 56 = .ok (.iload 4, 2) := by decide +kernel
theorem dX6_both_58 : decode cX6_both 58 = .ok (.aload_n 0, 1) := by decide +kernel
theorem dX6_both_59 : decode cX6_both 59 = .ok (.iload_n 1, 1) := by decide +kernel
theorem dX6_both_60 : decode cX6_both 60 = .ok (.iload 5, 2) := by decide +kernel
theorem dX6_both_62 : decode cX6_both 62 = .ok (.invokevirtual 209, 3) := by decide +kernel
theorem dX6_both_65 : decode cX6_both 65 = .ok (.ifCond .eq 17, 3) := by decide +kernel
theorem dX6_both_68 : decode cX6_both 68 = .ok (.aload_n 0, 1) := by decide +kernel
theorem dX6_both_69 : decode cX6_both 69 = .ok (.iload_n 2, 1) := by decide +kernel
theorem dX6_both_70 : decode cX6_both 70 = .ok (.iload 5, 2) := by decide +kernel
theorem dX6_both_72 : decode cX6_both 72 = .ok (.invokevirtual 209, 3) := by decide +kernel
theorem dX6_both_75 : decode cX6_both 75 = .ok (.ifCond .eq 7, 3) := by decide +kernel
theorem dX6_both_78 : decode cX6_both 78 = .ok (.iconst 1, 1) := by decide +kernel
theorem dX6_both_79 : decode cX6_both 79 = .ok (.goto 4, 3) := by decide +kernel
theorem dX6_both_82 : decode cX6_both 82 = .ok (.iconst 0, 1) := by decide +kernel
theorem dX6_both_83 : decode cX6_both 83 = .ok (.iadd, 1) := by decide +kernel
theorem dX6_both_84 : decode cX6_both 84 = .ok (.istore 4, 2) := by decide +kernel
theorem dX6_both_86 : decode cX6_both 86 = .ok (.iinc 5 1, 3) := by decide +kernel
theorem dX6_both_89 : decode cX6_both 89 = .ok (.goto (-39), 3) := by decide +kernel
theorem dX6_both_92 : decode cX6_both 92 = .ok (.iload 4, 2) := by decide +kernel
theorem dX6_both_94 : decode cX6_both 94 = .ok (.ireturn, 1) := by decide +kernel
theorem dX6_wouldChange_0 : decode cX6_wouldChange 0 = .ok (.aload_n 0, 1) := by decide +kernel
theorem dX6_wouldChange_1 : decode cX6_wouldChange 1 = .ok (.iconst 0, 1) := by decide +kernel
theorem dX6_wouldChange_2 : decode cX6_wouldChange 2 = .ok (.putfield 80, 3) := by decide +kernel
theorem dX6_wouldChange_5 : decode cX6_wouldChange 5 = .ok (.aload_n 0, 1) := by decide +kernel
theorem dX6_wouldChange_6 : decode cX6_wouldChange 6 = .ok (.iload_n 1, 1) := by decide +kernel
theorem dX6_wouldChange_7 : decode cX6_wouldChange 7 = .ok (.invokevirtual 91, 3) := by decide +kernel
theorem dX6_wouldChange_10 : decode cX6_wouldChange 10 = .ok (.ifCond .ne 9, 3) := by decide +kernel
theorem dX6_wouldChange_13 : decode cX6_wouldChange 13 = .ok (.aload_n 0, 1) := by decide +kernel
theorem dX6_wouldChange_14 : decode cX6_wouldChange 14 = .ok (.iconst 1, 1) := by decide +kernel
theorem dX6_wouldChange_15 : decode cX6_wouldChange 15 = .ok (.invokevirtual 95, 3) := by decide +kernel
theorem dX6_wouldChange_18 : decode cX6_wouldChange 18 = .ok (.ireturn, 1) := by decide +kernel
theorem dX6_wouldChange_19 : decode cX6_wouldChange 19 = .ok (.iload_n 2, 1) := by decide +kernel
theorem dX6_wouldChange_20 : decode cX6_wouldChange 20 = .ok (.iconst 0, 1) := by decide +kernel
theorem dX6_wouldChange_21 : decode cX6_wouldChange 21 = .ok (.sipush 1000, 3) := by decide +kernel
theorem dX6_wouldChange_24 : decode cX6_wouldChange 24 = .ok (.invokestatic 87, 3) := by decide +kernel
theorem dX6_wouldChange_27 : decode cX6_wouldChange 27 = .ok (.ifCond .eq 14, 3) := by decide +kernel
theorem dX6_wouldChange_30 : decode cX6_wouldChange 30 = .ok (.iload_n 3, 1) := by decide +kernel
theorem dX6_wouldChange_31 : decode cX6_wouldChange 31 = .ok (.iconst 1, 1) := by decide +kernel
theorem dX6_wouldChange_32 : decode cX6_wouldChange 32 = .ok (.sipush 200, 3) := by decide +kernel
theorem dX6_wouldChange_35 : decode cX6_wouldChange 35 = .ok (.invokestatic 87, 3) := by decide +kernel
theorem dX6_wouldChange_38 : decode cX6_wouldChange 38 = .ok (.ifCond .ne 9, 3) := by decide +kernel
theorem dX6_wouldChange_41 : decode cX6_wouldChange 41 = .ok (.aload_n 0, 1) := by decide +kernel
theorem dX6_wouldChange_42 : decode cX6_wouldChange 42 = .ok (.iconst 2, 1) := by decide +kernel
theorem dX6_wouldChange_43 : decode cX6_wouldChange 43 = .ok (.invokevirtual 95, 3) := by decide +kernel
theorem dX6_wouldChange_46 : decode cX6_wouldChange 46 = .ok (.ireturn, 1) := by decide +kernel
theorem dX6_wouldChange_47 : decode cX6_wouldChange 47 = .ok (.iconst 0, 1) := by decide +kernel
theorem dX6_wouldChange_48 : decode cX6_wouldChange 48 = .ok (.istore 4, 2) := by decide +kernel
theorem dX6_wouldChange_50 : decode cX6_wouldChange 50 = .ok (.iconst 0, 1) := by decide +kernel
theorem dX6_wouldChange_51 : decode cX6_wouldChange 51 = .ok (.istore 5, 2) := by decide +kernel
theorem dX6_wouldChange_53 : decode cX6_wouldChange 53 = .ok (.iload 5, 2) := by decide +kernel
theorem dX6_wouldChange_55 : decode cX6_wouldChange 55 = .ok (.iload_n 3, 1) := by decide +kernel
theorem dX6_wouldChange_56 : decode cX6_wouldChange 56 = .ok (.if_icmp .ge 50, 3) := by decide +kernel
theorem dX6_wouldChange_59 : decode cX6_wouldChange 59 = .ok (.iload 4, 2) := by decide +kernel
theorem dX6_wouldChange_61 : decode cX6_wouldChange 61 = .ok (.aload_n 0, 1) := by decide +kernel
theorem dX6_wouldChange_62 : decode cX6_wouldChange 62 = .ok (.iload_n 1, 1) := by decide +kernel
theorem dX6_wouldChange_63 : decode cX6_wouldChange 63 = .ok (.iload 5, 2) := by decide +kernel
theorem dX6_wouldChange_65 : decode cX6_wouldChange 65 = .ok (.iload 5, 2) := by decide +kernel
theorem dX6_wouldChange_67 : decode cX6_wouldChange 67 = .ok (.bipush 10, 2) := by decide +kernel
theorem dX6_wouldChange_69 : decode cX6_wouldChange 69 = .ok (.irem, 1) := by decide +kernel
theorem dX6_wouldChange_70 : decode cX6_wouldChange 70 = .ok (.iload 5, 2) := by decide +kernel
theorem dX6_wouldChange_72 : decode cX6_wouldChange 72 = .ok (.bipush 10, 2) := by decide +kernel
theorem dX6_wouldChange_74 : decode cX6_wouldChange 74 = .ok (.idiv, 1) := by decide +kernel
theorem dX6_wouldChange_75 : decode cX6_wouldChange 75 = .ok (.bipush 10, 2) := by decide +kernel
theorem dX6_wouldChange_77 : decode cX6_wouldChange 77 = .ok (.irem, 1) := by decide +kernel
theorem dX6_wouldChange_78 : decode cX6_wouldChange 78 = .ok (.iload_n 2, 1) := by decide +kernel
theorem dX6_wouldChange_79 : decode cX6_wouldChange 79 = .ok (.invokevirtual 171, 3) := by decide +kernel
theorem dX6_wouldChange_82 : decode cX6_wouldChange 82 = .ok (.aload_n 0, 1) := by decide +kernel
theorem dX6_wouldChange_83 : decode cX6_wouldChange 83 = .ok (.iload_n 1, 1) := by decide +kernel
theorem dX6_wouldChange_84 : decode cX6_wouldChange 84 = .ok (.iload 5, 2) := by decide +kernel
theorem dX6_wouldChange_86 : decode cX6_wouldChange 86 = .ok (.invokevirtual 203, 3) := by decide +kernel
theorem dX6_wouldChange_89 : decode cX6_wouldChange 89 = .ok (.if_icmp .ne 7, 3) := by decide +kernel
theorem dX6_wouldChange_92 : decode cX6_wouldChange 92 = .ok (.iconst 0, 1) := by decide +kernel
theorem dX6_wouldChange_93 : decode cX6_wouldChange 93 = .ok (.goto 4, 3) := by decide +kernel
theorem dX6_wouldChange_96 : decode cX6_wouldChange 96 = .ok (.iconst 1, 1) := by decide +kernel
theorem dX6_wouldChange_97 : decode cX6_wouldChange 97 = .ok (.iadd, 1) := by decide +kernel
theorem dX6_wouldChange_98 : decode cX6_wouldChange 98 = .ok (.istore 4, 2) := by decide +kernel
theorem dX6_wouldChange_100 : decode cX6_wouldChange 100 = .ok (.iinc 5 1, 3) := by decide +kernel
theorem dX6_wouldChange_103 : decode cX6_wouldChange 103 = .ok (.goto (-50), 3) := by decide +kernel
theorem dX6_wouldChange_106 : decode cX6_wouldChange 106 = .ok (.iload 4, 2) := by decide +kernel
theorem dX6_wouldChange_108 : decode cX6_wouldChange 108 = .ok (.ireturn, 1) := by decide +kernel
theorem dX6_all_0 : decode cX6_all 0 = .ok (.iconst 0, 1) := by decide +kernel
theorem dX6_all_1 : decode cX6_all 1 = .ok (.istore_n 2, 1) := by decide +kernel
theorem dX6_all_2 : decode cX6_all 2 = .ok (.iconst 0, 1) := by decide +kernel
theorem dX6_all_3 : decode cX6_all 3 = .ok (.istore_n 3, 1) := by decide +kernel
theorem dX6_all_4 : decode cX6_all 4 = .ok (.iload_n 3, 1) := by decide +kernel
theorem dX6_all_5 : decode cX6_all 5 = .ok (.aload_n 0, 1) := by decide +kernel
theorem dX6_all_6 : decode cX6_all 6 = .ok (.getfield 84, 3) := by decide +kernel
theorem dX6_all_9 : decode cX6_all 9 = .ok (.if_icmp .ge 20, 3) := by decide +kernel
theorem dX6_all_12 : decode cX6_all 12 = .ok (.iload_n 2, 1) := by decide +kernel
theorem dX6_all_13 : decode cX6_all 13 = .ok (.iconst 4, 1) := by decide +kernel
theorem dX6_all_14 : decode cX6_all 14 = .ok (.imul, 1) := by decide +kernel
theorem dX6_all_15 : decode cX6_all 15 = .ok (.aload_n 0, 1) := by decide +kernel
theorem dX6_all_16 : decode cX6_all 16 = .ok (.iload_n 3, 1) := by decide +kernel
theorem dX6_all_17 : decode cX6_all 17 = .ok (.iload_n 1, 1) := by decide +kernel
theorem dX6_all_18 : decode cX6_all 18 = .ok (.invokevirtual 203, 3) := by decide +kernel
theorem dX6_all_21 : decode cX6_all 21 = .ok (.iadd, 1) := by decide +kernel
theorem dX6_all_22 : decode cX6_all 22 = .ok (.istore_n 2, 1) := by decide +kernel
theorem dX6_all_23 : decode cX6_all 23 = .ok (.iinc 3 1, 3) := by decide +kernel
theorem dX6_all_26 : decode cX6_all 26 = .ok (.goto (-22), 3) := by decide +kernel
theorem dX6_all_29 : decode cX6_all 29 = .ok (.iload_n 2, 1) := by decide +kernel
theorem dX6_all_30 : decode cX6_all 30 = .ok (.ireturn, 1) := by decide +kernel
theorem dX6_wouldTurn_0 : decode cX6_wouldTurn 0 = .ok (.aload_n 0, 1) := by decide +kernel
theorem dX6_wouldTurn_1 : decode cX6_wouldTurn 1 = .ok (.iconst 0, 1) := by decide +kernel
theorem dX6_wouldTurn_2 : decode cX6_wouldTurn 2 = .ok (.putfield 80, 3) := by decide +kernel
theorem dX6_wouldTurn_5 : decode cX6_wouldTurn 5 = .ok (.aload_n 0, 1) := by decide +kernel
theorem dX6_wouldTurn_6 : decode cX6_wouldTurn 6 = .ok (.iload_n 1, 1) := by decide +kernel
theorem dX6_wouldTurn_7 : decode cX6_wouldTurn 7 = .ok (.invokevirtual 91, 3) := by decide +kernel
theorem dX6_wouldTurn_10 : decode cX6_wouldTurn 10 = .ok (.ifCond .ne 9, 3) := by decide +kernel
theorem dX6_wouldTurn_13 : decode cX6_wouldTurn 13 = .ok (.aload_n 0, 1) := by decide +kernel
theorem dX6_wouldTurn_14 : decode cX6_wouldTurn 14 = .ok (.iconst 1, 1) := by decide +kernel
theorem dX6_wouldTurn_15 : decode cX6_wouldTurn 15 = .ok (.invokevirtual 95, 3) := by decide +kernel
theorem dX6_wouldTurn_18 : decode cX6_wouldTurn 18 = .ok (.ireturn, 1) := by decide +kernel
theorem dX6_wouldTurn_19 : decode cX6_wouldTurn 19 = .ok (.iload_n 2, 1) := by decide +kernel
theorem dX6_wouldTurn_20 : decode cX6_wouldTurn 20 = .ok (.iconst 1, 1) := by decide +kernel
theorem dX6_wouldTurn_21 : decode cX6_wouldTurn 21 = .ok (.sipush 200, 3) := by decide +kernel
theorem dX6_wouldTurn_24 : decode cX6_wouldTurn 24 = .ok (.invokestatic 87, 3) := by decide +kernel
theorem dX6_wouldTurn_27 : decode cX6_wouldTurn 27 = .ok (.ifCond .ne 9, 3) := by decide +kernel
theorem dX6_wouldTurn_30 : decode cX6_wouldTurn 30 = .ok (.aload_n 0, 1) := by decide +kernel
theorem dX6_wouldTurn_31 : decode cX6_wouldTurn 31 = .ok (.iconst 2, 1) := by decide +kernel
theorem dX6_wouldTurn_32 : decode cX6_wouldTurn 32 = .ok (.invokevirtual 95, 3) := by decide +kernel
theorem dX6_wouldTurn_35 : decode cX6_wouldTurn 35 = .ok (.ireturn, 1) := by decide +kernel
theorem dX6_wouldTurn_36 : decode cX6_wouldTurn 36 = .ok (.iload_n 2, 1) := by decide +kernel
theorem dX6_wouldTurn_37 : decode cX6_wouldTurn 37 = .ok (.newarray .int, 2) := by decide +kernel
theorem dX6_wouldTurn_39 : decode cX6_wouldTurn 39 = .ok (.astore_n 3, 1) := by decide +kernel
theorem dX6_wouldTurn_40 : decode cX6_wouldTurn 40 = .ok (.iconst 0, 1) := by decide +kernel
theorem dX6_wouldTurn_41 : decode cX6_wouldTurn 41 = .ok (.istore 4, 2) := by decide +kernel
theorem dX6_wouldTurn_43 : decode cX6_wouldTurn 43 = .ok (.iload 4, 2) := by decide +kernel
theorem dX6_wouldTurn_45 : decode cX6_wouldTurn 45 = .ok (.iload_n 2, 1) := by decide +kernel
theorem dX6_wouldTurn_46 : decode cX6_wouldTurn 46 = .ok (.if_icmp .ge 19, 3) := by decide +kernel
theorem dX6_wouldTurn_49 : decode cX6_wouldTurn 49 = .ok (.aload_n 3, 1) := by decide +kernel
theorem dX6_wouldTurn_50 : decode cX6_wouldTurn 50 = .ok (.iload 4, 2) := by decide +kernel
theorem dX6_wouldTurn_52 : decode cX6_wouldTurn 52 = .ok (.aload_n 0, 1) := by decide +kernel
theorem dX6_wouldTurn_53 : decode cX6_wouldTurn 53 = .ok (.iload 4, 2) := by decide +kernel
theorem dX6_wouldTurn_55 : decode cX6_wouldTurn 55 = .ok (.invokevirtual 212, 3) := by decide +kernel
theorem dX6_wouldTurn_58 : decode cX6_wouldTurn 58 = .ok (.iastore, 1) := by decide +kernel
theorem dX6_wouldTurn_59 : decode cX6_wouldTurn 59 = .ok (.iinc 4 1, 3) := by decide +kernel
theorem dX6_wouldTurn_62 : decode cX6_wouldTurn 62 = .ok (.goto (-19), 3) := by decide +kernel
theorem dX6_wouldTurn_65 : decode cX6_wouldTurn 65 = .ok (.aload_n 0, 1) := by decide +kernel
theorem dX6_wouldTurn_66 : decode cX6_wouldTurn 66 = .ok (.getfield 32, 3) := by decide +kernel
theorem dX6_wouldTurn_69 : decode cX6_wouldTurn 69 = .ok (.iload_n 1, 1) := by decide +kernel
theorem dX6_wouldTurn_70 : decode cX6_wouldTurn 70 = .ok (.aload_n 0, 1) := by decide +kernel
theorem dX6_wouldTurn_71 : decode cX6_wouldTurn 71 = .ok (.getfield 32, 3) := by decide +kernel
theorem dX6_wouldTurn_74 : decode cX6_wouldTurn 74 = .ok (.iload_n 1, 1) := by decide +kernel
theorem dX6_wouldTurn_75 : decode cX6_wouldTurn 75 = .ok (.baload, 1) := by decide +kernel
theorem dX6_wouldTurn_76 : decode cX6_wouldTurn 76 = .ok (.ifCond .ne 7, 3) := by decide +kernel
theorem dX6_wouldTurn_79 : decode cX6_wouldTurn 79 = .ok (.iconst 1, 1) := by decide +kernel
theorem dX6_wouldTurn_80 : decode cX6_wouldTurn 80 = .ok (.goto 4, 3) := by decide +kernel
theorem dX6_wouldTurn_83 : decode cX6_wouldTurn 83 = .ok (.iconst 0, 1) := by decide +kernel
theorem dX6_wouldTurn_84 : decode cX6_wouldTurn 84 = .ok (.bastore, 1) := by decide +kernel
theorem dX6_wouldTurn_85 : decode cX6_wouldTurn 85 = .ok (.iconst 0, 1) := by decide +kernel
theorem dX6_wouldTurn_86 : decode cX6_wouldTurn 86 = .ok (.istore 4, 2) := by decide +kernel
theorem dX6_wouldTurn_88 : decode cX6_wouldTurn 88 = .ok (.iconst 0, 1) := by decide +kernel
theorem dX6_wouldTurn_89 : decode cX6_wouldTurn 89 = .ok (.istore 5, 2) := by decide +kernel
theorem dX6_wouldTurn_91 : decode cX6_wouldTurn 91 = .ok (.iload 5, 2) := by decide +kernel
theorem dX6_wouldTurn_93 : decode cX6_wouldTurn 93 = .ok (.iload_n 2, 1) := by decide +kernel
theorem dX6_wouldTurn_94 : decode cX6_wouldTurn 94 = .ok (.if_icmp .ge 32, 3) := by decide +kernel
theorem dX6_wouldTurn_97 : decode cX6_wouldTurn 97 = .ok (.iload 4, 2) := by decide +kernel
theorem dX6_wouldTurn_99 : decode cX6_wouldTurn 99 = .ok (.aload_n 0, 1) := by decide +kernel
theorem dX6_wouldTurn_100 : decode cX6_wouldTurn 100 = .ok (.iload 5, 2) := by decide +kernel
theorem dX6_wouldTurn_102 : decode cX6_wouldTurn 102 = .ok (.invokevirtual 212, 3) := by decide +kernel
theorem dX6_wouldTurn_105 : decode cX6_wouldTurn 105 = .ok (.aload_n 3, 1) := by decide +kernel
theorem dX6_wouldTurn_106 : decode cX6_wouldTurn 106 = .ok (.iload 5, 2) := by decide +kernel
theorem dX6_wouldTurn_108 : decode cX6_wouldTurn 108 = .ok (.iaload, 1) := by decide +kernel
theorem dX6_wouldTurn_109 : decode cX6_wouldTurn 109 = .ok (.if_icmp .ne 7, 3) := by decide +kernel
theorem dX6_wouldTurn_112 : decode cX6_wouldTurn 112 = .ok (.iconst 0, 1) := by decide +kernel
theorem dX6_wouldTurn_113 : decode cX6_wouldTurn 113 = .ok (.goto 4, 3) := by decide +kernel
theorem dX6_wouldTurn_116 : decode cX6_wouldTurn 116 = .ok (.iconst 1, 1) := by decide +kernel
theorem dX6_wouldTurn_117 : decode cX6_wouldTurn 117 = .ok (.iadd, 1) := by decide +kernel
theorem dX6_wouldTurn_118 : decode cX6_wouldTurn 118 = .ok (.istore 4, 2) := by decide +kernel
theorem dX6_wouldTurn_120 : decode cX6_wouldTurn 120 = .ok (.iinc 5 1, 3) := by decide +kernel
theorem dX6_wouldTurn_123 : decode cX6_wouldTurn 123 = .ok (.goto (-32), 3) := by decide +kernel
theorem dX6_wouldTurn_126 : decode cX6_wouldTurn 126 = .ok (.aload_n 0, 1) := by decide +kernel
theorem dX6_wouldTurn_127 : decode cX6_wouldTurn 127 = .ok (.getfield 32, 3) := by decide +kernel
theorem dX6_wouldTurn_130 : decode cX6_wouldTurn 130 = .ok (.iload_n 1, 1) := by decide +kernel
theorem dX6_wouldTurn_131 : decode cX6_wouldTurn 131 = .ok (.aload_n 0, 1) := by decide +kernel
theorem dX6_wouldTurn_132 : decode cX6_wouldTurn 132 = .ok (.getfield 32, 3) := by decide +kernel
theorem dX6_wouldTurn_135 : decode cX6_wouldTurn 135 = .ok (.iload_n 1, 1) := by decide +kernel
theorem dX6_wouldTurn_136 : decode cX6_wouldTurn 136 = .ok (.baload, 1) := by decide +kernel
theorem dX6_wouldTurn_137 : decode cX6_wouldTurn 137 = .ok (.ifCond .ne 7, 3) := by decide +kernel
theorem dX6_wouldTurn_140 : decode cX6_wouldTurn 140 = .ok (.iconst 1, 1) := by decide +kernel
theorem dX6_wouldTurn_141 : decode cX6_wouldTurn 141 = .ok (.goto 4, 3) := by decide +kernel
theorem dX6_wouldTurn_144 : decode cX6_wouldTurn 144 = .ok (.iconst 0, 1) := by decide +kernel
theorem dX6_wouldTurn_145 : decode cX6_wouldTurn 145 = .ok (.bastore, 1) := by decide +kernel
theorem dX6_wouldTurn_146 : decode cX6_wouldTurn 146 = .ok (.iload 4, 2) := by decide +kernel
theorem dX6_wouldTurn_148 : decode cX6_wouldTurn 148 = .ok (.ireturn, 1) := by decide +kernel
theorem dX6_shareIn_0 : decode cX6_shareIn 0 = .ok (.aload_n 0, 1) := by decide +kernel
theorem dX6_shareIn_1 : decode cX6_shareIn 1 = .ok (.iconst 0, 1) := by decide +kernel
theorem dX6_shareIn_2 : decode cX6_shareIn 2 = .ok (.putfield 80, 3) := by decide +kernel
theorem dX6_shareIn_5 : decode cX6_shareIn 5 = .ok (.aload_n 0, 1) := by decide +kernel
theorem dX6_shareIn_6 : decode cX6_shareIn 6 = .ok (.iload_n 1, 1) := by decide +kernel
theorem dX6_shareIn_7 : decode cX6_shareIn 7 = .ok (.invokevirtual 91, 3) := by decide +kernel
theorem dX6_shareIn_10 : decode cX6_shareIn 10 = .ok (.ifCond .ne 9, 3) := by decide +kernel
theorem dX6_shareIn_13 : decode cX6_shareIn 13 = .ok (.aload_n 0, 1) := by decide +kernel
theorem dX6_shareIn_14 : decode cX6_shareIn 14 = .ok (.iconst 1, 1) := by decide +kernel
theorem dX6_shareIn_15 : decode cX6_shareIn 15 = .ok (.invokevirtual 95, 3) := by decide +kernel
theorem dX6_shareIn_18 : decode cX6_shareIn 18 = .ok (.ireturn, 1) := by decide +kernel
theorem dX6_shareIn_19 : decode cX6_shareIn 19 = .ok (.iload_n 2, 1) := by decide +kernel
theorem dX6_shareIn_20 : decode cX6_shareIn 20 = .ok (.iconst 0, 1) := by decide +kernel
theorem dX6_shareIn_21 : decode cX6_shareIn 21 = .ok (.sipush 1000, 3) := by decide +kernel
theorem dX6_shareIn_24 : decode cX6_shareIn 24 = .ok (.invokestatic 87, 3) := by decide +kernel
theorem dX6_shareIn_27 : decode cX6_shareIn 27 = .ok (.ifCond .eq 12, 3) := by decide +kernel
theorem dX6_shareIn_30 : decode cX6_shareIn 30 = .ok (.aload_n 0, 1) := by decide +kernel
theorem dX6_shareIn_31 : decode cX6_shareIn 31 = .ok (.iload_n 1, 1) := by decide +kernel
theorem dX6_shareIn_32 : decode cX6_shareIn 32 = .ok (.iload_n 2, 1) := by decide +kernel
theorem dX6_shareIn_33 : decode cX6_shareIn 33 = .ok (.invokevirtual 117, 3) := by decide +kernel
theorem dX6_shareIn_36 : decode cX6_shareIn 36 = .ok (.goto 8, 3) := by decide +kernel
theorem dX6_shareIn_39 : decode cX6_shareIn 39 = .ok (.aload_n 0, 1) := by decide +kernel
theorem dX6_shareIn_40 : decode cX6_shareIn 40 = .ok (.iconst 2, 1) := by decide +kernel
theorem dX6_shareIn_41 : decode cX6_shareIn 41 = .ok (.invokevirtual 95, 3) := by decide +kernel
theorem dX6_shareIn_44 : decode cX6_shareIn 44 = .ok (.ireturn, 1) := by decide +kernel
theorem dX6_digest_0 : decode cX6_digest 0 = .ok (.aload_n 0, 1) := by decide +kernel
theorem dX6_digest_1 : decode cX6_digest 1 = .ok (.iconst 0, 1) := by decide +kernel
theorem dX6_digest_2 : decode cX6_digest 2 = .ok (.putfield 80, 3) := by decide +kernel
theorem dX6_digest_5 : decode cX6_digest 5 = .ok (.ldc2_w 215, 3) := by decide +kernel
theorem dX6_digest_8 : decode cX6_digest 8 = .ok (.aload_n 0, 1) := by decide +kernel
theorem dX6_digest_9 : decode cX6_digest 9 = .ok (.getfield 84, 3) := by decide +kernel
theorem dX6_digest_12 : decode cX6_digest 12 = .ok (.i2l, 1) := by decide +kernel
theorem dX6_digest_13 : decode cX6_digest 13 = .ok (.ladd, 1) := by decide +kernel
theorem dX6_digest_14 : decode cX6_digest 14 = .ok (.ldc2_w 217, 3) := by decide +kernel
theorem dX6_digest_17 : decode cX6_digest 17 = .ok (.lmul, 1) := by decide +kernel
theorem dX6_digest_18 : decode cX6_digest 18 = .ok (.aload_n 0, 1) := by decide +kernel
theorem dX6_digest_19 : decode cX6_digest 19 = .ok (.getfield 151, 3) := by decide +kernel
theorem dX6_digest_22 : decode cX6_digest 22 = .ok (.i2l, 1) := by decide +kernel
theorem dX6_digest_23 : decode cX6_digest 23 = .ok (.ladd, 1) := by decide +kernel
theorem dX6_digest_24 : decode cX6_digest 24 = .ok (.lstore_n 1, 1) := by decide +kernel
theorem dX6_digest_25 : decode cX6_digest 25 = .ok (.iconst 0, 1) := by decide +kernel
theorem dX6_digest_26 : decode cX6_digest 26 = .ok (.istore_n 3, 1) := by decide +kernel
theorem dX6_digest_27 : decode cX6_digest 27 = .ok (.iload_n 3, 1) := by decide +kernel
theorem dX6_digest_28 : decode cX6_digest 28 = .ok (.iconst 3, 1) := by decide +kernel
theorem dX6_digest_29 : decode cX6_digest 29 = .ok (.if_icmp .ge 22, 3) := by decide +kernel
theorem dX6_digest_32 : decode cX6_digest 32 = .ok (.lload_n 1, 1) := by decide +kernel
theorem dX6_digest_33 : decode cX6_digest 33 = .ok (.ldc2_w 217, 3) := by decide +kernel
theorem dX6_digest_36 : decode cX6_digest 36 = .ok (.lmul, 1) := by decide +kernel
theorem dX6_digest_37 : decode cX6_digest 37 = .ok (.aload_n 0, 1) := by decide +kernel
theorem dX6_digest_38 : decode cX6_digest 38 = .ok (.iload_n 3, 1) := by decide +kernel
theorem dX6_digest_39 : decode cX6_digest 39 = .ok (.invokevirtual 142, 3) := by decide +kernel
theorem dX6_digest_42 : decode cX6_digest 42 = .ok (.i2l, 1) := by decide +kernel
theorem dX6_digest_43 : decode cX6_digest 43 = .ok (.ladd, 1) := by decide +kernel
theorem dX6_digest_44 : decode cX6_digest 44 = .ok (.lstore_n 1, 1) := by decide +kernel
theorem dX6_digest_45 : decode cX6_digest 45 = .ok (.iinc 3 1, 3) := by decide +kernel
theorem dX6_digest_48 : decode cX6_digest 48 = .ok (.goto (-21), 3) := by decide +kernel
theorem dX6_digest_51 : decode cX6_digest 51 = .ok (.iconst 0, 1) := by decide +kernel
theorem dX6_digest_52 : decode cX6_digest 52 = .ok (.istore_n 3, 1) := by decide +kernel
theorem dX6_digest_53 : decode cX6_digest 53 = .ok (.iload_n 3, 1) := by decide +kernel
theorem dX6_digest_54 : decode cX6_digest 54 = .ok (.aload_n 0, 1) := by decide +kernel
theorem dX6_digest_55 : decode cX6_digest 55 = .ok (.getfield 84, 3) := by decide +kernel
theorem dX6_digest_58 : decode cX6_digest 58 = .ok (.if_icmp .ge 152, 3) := by decide +kernel
theorem dX6_digest_61 : decode cX6_digest 61 = .ok (.lload_n 1, 1) := by decide +kernel
theorem dX6_digest_62 : decode cX6_digest 62 = .ok (.ldc2_w 217, 3) := by decide +kernel
theorem dX6_digest_65 : decode cX6_digest 65 = .ok (.lmul, 1) := by decide +kernel
theorem dX6_digest_66 : decode cX6_digest 66 = .ok (.aload_n 0, 1) := by decide +kernel
theorem dX6_digest_67 : decode cX6_digest 67 = .ok (.iload_n 3, 1) := by decide +kernel
theorem dX6_digest_68 : decode cX6_digest 68 = .ok (.iconst 0, 1) := by decide +kernel
theorem dX6_digest_69 : decode cX6_digest 69 = .ok (.invokevirtual 117, 3) := by decide +kernel
theorem dX6_digest_72 : decode cX6_digest 72 = .ok (.i2l, 1) := by decide +kernel
theorem dX6_digest_73 : decode cX6_digest 73 = .ok (.ladd, 1) := by decide +kernel
theorem dX6_digest_74 : decode cX6_digest 74 = .ok (.ldc2_w 217, 3) := by decide +kernel
theorem dX6_digest_77 : decode cX6_digest 77 = .ok (.lmul, 1) := by decide +kernel
theorem dX6_digest_78 : decode cX6_digest 78 = .ok (.aload_n 0, 1) := by decide +kernel
theorem dX6_digest_79 : decode cX6_digest 79 = .ok (.iload_n 3, 1) := by decide +kernel
theorem dX6_digest_80 : decode cX6_digest 80 = .ok (.invokevirtual 194, 3) := by decide +kernel
theorem dX6_digest_83 : decode cX6_digest 83 = .ok (.i2l, 1) := by decide +kernel
theorem dX6_digest_84 : decode cX6_digest 84 = .ok (.ladd, 1) := by decide +kernel
theorem dX6_digest_85 : decode cX6_digest 85 = .ok (.ldc2_w 217, 3) := by decide +kernel
theorem dX6_digest_88 : decode cX6_digest 88 = .ok (.lmul, 1) := by decide +kernel
theorem dX6_digest_89 : decode cX6_digest 89 = .ok (.aload_n 0, 1) := by decide +kernel
theorem dX6_digest_90 : decode cX6_digest 90 = .ok (.iload_n 3, 1) := by decide +kernel
theorem dX6_digest_91 : decode cX6_digest 91 = .ok (.invokevirtual 197, 3) := by decide +kernel
theorem dX6_digest_94 : decode cX6_digest 94 = .ok (.ifCond .eq 7, 3) := by decide +kernel
theorem dX6_digest_97 : decode cX6_digest 97 = .ok (.iconst 1, 1) := by decide +kernel
theorem dX6_digest_98 : decode cX6_digest 98 = .ok (.goto 4, 3) := by decide +kernel
theorem dX6_digest_101 : decode cX6_digest 101 = .ok (.iconst 0, 1) := by decide +kernel
theorem dX6_digest_102 : decode cX6_digest 102 = .ok (.i2l, 1) := by decide +kernel
theorem dX6_digest_103 : decode cX6_digest 103 = .ok (.ladd, 1) := by decide +kernel
theorem dX6_digest_104 : decode cX6_digest 104 = .ok (.ldc2_w 217, 3) := by decide +kernel
theorem dX6_digest_107 : decode cX6_digest 107 = .ok (.lmul, 1) := by decide +kernel
theorem dX6_digest_108 : decode cX6_digest 108 = .ok (.aload_n 0, 1) := by decide +kernel
theorem dX6_digest_109 : decode cX6_digest 109 = .ok (.iload_n 3, 1) := by decide +kernel
theorem dX6_digest_110 : decode cX6_digest 110 = .ok (.invokevirtual 200, 3) := by decide +kernel
theorem dX6_digest_113 : decode cX6_digest 113 = .ok (.i2l, 1) := by decide +kernel
theorem dX6_digest_114 : decode cX6_digest 114 = .ok (.ladd, 1) := by decide +kernel
theorem dX6_digest_115 : decode cX6_digest 115 = .ok (.lstore_n 1, 1) := by decide +kernel
theorem dX6_digest_116 : decode cX6_digest 116 = .ok (.iconst 0, 1) := by decide +kernel
theorem dX6_digest_117 : decode cX6_digest 117 = .ok (.istore 4, 2) := by decide +kernel
theorem dX6_digest_119 : decode cX6_digest 119 = .ok (.iload 4, 2) := by decide +kernel
theorem dX6_digest_121 : decode cX6_digest 121 = .ok (.aload_n 0, 1) := by decide +kernel
theorem dX6_digest_122 : decode cX6_digest 122 = .ok (.getfield 13, 3) := by decide +kernel
theorem dX6_digest_125 : decode cX6_digest 125 = .ok (.iload_n 3, 1) := by decide +kernel
theorem dX6_digest_126 : decode cX6_digest 126 = .ok (.iaload, 1) := by decide +kernel
theorem dX6_digest_127 : decode cX6_digest 127 = .ok (.if_icmp .ge 77, 3) := by decide +kernel
theorem dX6_digest_130 : decode cX6_digest 130 = .ok (.lload_n 1, 1) := by decide +kernel
theorem dX6_digest_131 : decode cX6_digest 131 = .ok (.ldc2_w 217, 3) := by decide +kernel
theorem dX6_digest_134 : decode cX6_digest 134 = .ok (.lmul, 1) := by decide +kernel
theorem dX6_digest_135 : decode cX6_digest 135 = .ok (.aload_n 0, 1) := by decide +kernel
theorem dX6_digest_136 : decode cX6_digest 136 = .ok (.getfield 16, 3) := by decide +kernel
theorem dX6_digest_139 : decode cX6_digest 139 = .ok (.iload_n 3, 1) := by decide +kernel
theorem dX6_digest_140 : decode cX6_digest 140 = .ok (.iconst 4, 1) := by decide +kernel
theorem dX6_digest_141 : decode cX6_digest 141 = .ok (.imul, 1) := by decide +kernel
theorem dX6_digest_142 : decode cX6_digest 142 = .ok (.iload 4, 2) := by decide +kernel
theorem dX6_digest_144 : decode cX6_digest 144 = .ok (.iadd, 1) := by decide +kernel
theorem dX6_digest_145 : decode cX6_digest 145 = .ok (.iaload, 1) := by decide +kernel
theorem dX6_digest_146 : decode cX6_digest 146 = .ok (.i2l, 1) := by decide +kernel
theorem dX6_digest_147 : decode cX6_digest 147 = .ok (.ladd, 1) := by decide +kernel
theorem dX6_digest_148 : decode cX6_digest 148 = .ok (.lstore_n 1, 1) := by decide +kernel
theorem dX6_digest_149 : decode cX6_digest 149 = .ok (.iconst 0, 1) := by decide +kernel
theorem dX6_digest_150 : decode cX6_digest 150 = .ok (.istore 5, 2) := by decide +kernel
theorem dX6_digest_152 : decode cX6_digest 152 = .ok (.iload 5, 2) := by decide +kernel
theorem dX6_digest_154 : decode cX6_digest 154 = .ok (.iconst 4, 1) := by decide +kernel
theorem dX6_digest_155 : decode cX6_digest 155 = .ok (.if_icmp .ge 26, 3) := by decide +kernel
theorem dX6_digest_158 : decode cX6_digest 158 = .ok (.lload_n 1, 1) := by decide +kernel
theorem dX6_digest_159 : decode cX6_digest 159 = .ok (.ldc2_w 217, 3) := by decide +kernel
theorem dX6_digest_162 : decode cX6_digest 162 = .ok (.lmul, 1) := by decide +kernel
theorem dX6_digest_163 : decode cX6_digest 163 = .ok (.aload_n 0, 1) := by decide +kernel
theorem dX6_digest_164 : decode cX6_digest 164 = .ok (.iload_n 3, 1) := by decide +kernel
theorem dX6_digest_165 : decode cX6_digest 165 = .ok (.iload 4, 2) := by decide +kernel
theorem dX6_digest_167 : decode cX6_digest 167 = .ok (.iload 5, 2) := by decide +kernel
theorem dX6_digest_169 : decode cX6_digest 169 = .ok (.invokevirtual 182, 3) := by decide +kernel
theorem dX6_digest_172 : decode cX6_digest 172 = .ok (.i2l, 1) := by decide +kernel
theorem dX6_digest_173 : decode cX6_digest 173 = .ok (.ladd, 1) := by decide +kernel
theorem dX6_digest_174 : decode cX6_digest 174 = .ok (.lstore_n 1, 1) := by decide +kernel
theorem dX6_digest_175 : decode cX6_digest 175 = .ok (.iinc 5 1, 3) := by decide +kernel
theorem dX6_digest_178 : decode cX6_digest 178 = .ok (.goto (-26), 3) := by decide +kernel
theorem dX6_digest_181 : decode cX6_digest 181 = .ok (.lload_n 1, 1) := by decide +kernel
theorem dX6_digest_182 : decode cX6_digest 182 = .ok (.ldc2_w 217, 3) := by decide +kernel
theorem dX6_digest_185 : decode cX6_digest 185 = .ok (.lmul, 1) := by decide +kernel
theorem dX6_digest_186 : decode cX6_digest 186 = .ok (.aload_n 0, 1) := by decide +kernel
theorem dX6_digest_187 : decode cX6_digest 187 = .ok (.iload_n 3, 1) := by decide +kernel
theorem dX6_digest_188 : decode cX6_digest 188 = .ok (.iload 4, 2) := by decide +kernel
theorem dX6_digest_190 : decode cX6_digest 190 = .ok (.bipush 20, 2) := by decide +kernel
theorem dX6_digest_192 : decode cX6_digest 192 = .ok (.invokevirtual 206, 3) := by decide +kernel
theorem dX6_digest_195 : decode cX6_digest 195 = .ok (.i2l, 1) := by decide +kernel
theorem dX6_digest_196 : decode cX6_digest 196 = .ok (.ladd, 1) := by decide +kernel
theorem dX6_digest_197 : decode cX6_digest 197 = .ok (.lstore_n 1, 1) := by decide +kernel
theorem dX6_digest_198 : decode cX6_digest 198 = .ok (.iinc 4 1, 3) := by decide +kernel
theorem dX6_digest_201 : decode cX6_digest 201 = .ok (.goto (-82), 3) := by decide +kernel
theorem dX6_digest_204 : decode cX6_digest 204 = .ok (.iinc 3 1, 3) := by decide +kernel
theorem dX6_digest_207 : decode cX6_digest 207 = .ok (.goto (-154), 3) := by decide +kernel
theorem dX6_digest_210 : decode cX6_digest 210 = .ok (.iconst 0, 1) := by decide +kernel
theorem dX6_digest_211 : decode cX6_digest 211 = .ok (.istore_n 3, 1) := by decide +kernel
theorem dX6_digest_212 : decode cX6_digest 212 = .ok (.iload_n 3, 1) := by decide +kernel
theorem dX6_digest_213 : decode cX6_digest 213 = .ok (.bipush 10, 2) := by decide +kernel
theorem dX6_digest_215 : decode cX6_digest 215 = .ok (.if_icmp .ge 72, 3) := by decide +kernel
theorem dX6_digest_218 : decode cX6_digest 218 = .ok (.iconst 0, 1) := by decide +kernel
theorem dX6_digest_219 : decode cX6_digest 219 = .ok (.istore 4, 2) := by decide +kernel
theorem dX6_digest_221 : decode cX6_digest 221 = .ok (.iload 4, 2) := by decide +kernel
theorem dX6_digest_223 : decode cX6_digest 223 = .ok (.aload_n 0, 1) := by decide +kernel
theorem dX6_digest_224 : decode cX6_digest 224 = .ok (.getfield 84, 3) := by decide +kernel
theorem dX6_digest_227 : decode cX6_digest 227 = .ok (.if_icmp .ge 54, 3) := by decide +kernel
theorem dX6_digest_230 : decode cX6_digest 230 = .ok (.lload_n 1, 1) := by decide +kernel
theorem dX6_digest_231 : decode cX6_digest 231 = .ok (.ldc2_w 217, 3) := by decide +kernel
theorem dX6_digest_234 : decode cX6_digest 234 = .ok (.lmul, 1) := by decide +kernel
theorem dX6_digest_235 : decode cX6_digest 235 = .ok (.aload_n 0, 1) := by decide +kernel
theorem dX6_digest_236 : decode cX6_digest 236 = .ok (.iload 4, 2) := by decide +kernel
theorem dX6_digest_238 : decode cX6_digest 238 = .ok (.iload_n 3, 1) := by decide +kernel
theorem dX6_digest_239 : decode cX6_digest 239 = .ok (.iload_n 3, 1) := by decide +kernel
theorem dX6_digest_240 : decode cX6_digest 240 = .ok (.bipush 9, 2) := by decide +kernel
theorem dX6_digest_242 : decode cX6_digest 242 = .ok (.iload_n 3, 1) := by decide +kernel
theorem dX6_digest_243 : decode cX6_digest 243 = .ok (.isub, 1) := by decide +kernel
theorem dX6_digest_244 : decode cX6_digest 244 = .ok (.invokevirtual 154, 3) := by decide +kernel
theorem dX6_digest_247 : decode cX6_digest 247 = .ok (.i2l, 1) := by decide +kernel
theorem dX6_digest_248 : decode cX6_digest 248 = .ok (.ladd, 1) := by decide +kernel
theorem dX6_digest_249 : decode cX6_digest 249 = .ok (.lstore_n 1, 1) := by decide +kernel
theorem dX6_digest_250 : decode cX6_digest 250 = .ok (.lload_n 1, 1) := by decide +kernel
theorem dX6_digest_251 : decode cX6_digest 251 = .ok (.ldc2_w 217, 3) := by decide +kernel
theorem dX6_digest_254 : decode cX6_digest 254 = .ok (.lmul, 1) := by decide +kernel
theorem dX6_digest_255 : decode cX6_digest 255 = .ok (.aload_n 0, 1) := by decide +kernel
theorem dX6_digest_256 : decode cX6_digest 256 = .ok (.getfield 165, 3) := by decide +kernel
theorem dX6_digest_259 : decode cX6_digest 259 = .ok (.i2l, 1) := by decide +kernel
theorem dX6_digest_260 : decode cX6_digest 260 = .ok (.ladd, 1) := by decide +kernel
theorem dX6_digest_261 : decode cX6_digest 261 = .ok (.ldc2_w 217, 3) := by decide +kernel
theorem dX6_digest_264 : decode cX6_digest 264 = .ok (.lmul, 1) := by decide +kernel
theorem dX6_digest_265 : decode cX6_digest 265 = .ok (.aload_n 0, 1) := by decide +kernel
theorem dX6_digest_266 : decode cX6_digest 266 = .ok (.iload 4, 2) := by decide +kernel
theorem dX6_digest_268 : decode cX6_digest 268 = .ok (.iload_n 3, 1) := by decide +kernel
theorem dX6_digest_269 : decode cX6_digest 269 = .ok (.invokevirtual 179, 3) := by decide +kernel
theorem dX6_digest_272 : decode cX6_digest 272 = .ok (.i2l, 1) := by decide +kernel
theorem dX6_digest_273 : decode cX6_digest 273 = .ok (.ladd, 1) := by decide +kernel
theorem dX6_digest_274 : decode cX6_digest 274 = .ok (.lstore_n 1, 1) := by decide +kernel
theorem dX6_digest_275 : decode cX6_digest 275 = .ok (.iinc 4 1, 3) := by decide +kernel
theorem dX6_digest_278 : decode cX6_digest 278 = .ok (.goto (-57), 3) := by decide +kernel
theorem dX6_digest_281 : decode cX6_digest 281 = .ok (.iinc 3 1, 3) := by decide +kernel
theorem dX6_digest_284 : decode cX6_digest 284 = .ok (.goto (-72), 3) := by decide +kernel
theorem dX6_digest_287 : decode cX6_digest 287 = .ok (.lload_n 1, 1) := by decide +kernel
theorem dX6_digest_288 : decode cX6_digest 288 = .ok (.lreturn, 1) := by decide +kernel
