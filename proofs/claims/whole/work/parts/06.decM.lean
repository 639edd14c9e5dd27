theorem dX6_init_0 : decode cX6_init 0 = .ok (.aload_n 0, 1) := by decide +kernel
theorem dX6_init_1 : decode cX6_init 1 = .ok (.invokespecial 1, 3) := by decide +kernel
theorem dX6_init_4 : decode cX6_init 4 = .ok (.aload_n 0, 1) := by decide +kernel
theorem dX6_init_5 : decode cX6_init 5 = .ok (.bipush 100, 2) := by decide +kernel
theorem dX6_init_7 : decode cX6_init 7 = .ok (.newarray .int, 2) := by decide +kernel
theorem dX6_init_9 : decode cX6_init 9 = .ok (.putfield 7, 3) := by decide +kernel
theorem dX6_init_12 : decode cX6_init 12 = .ok (.aload_n 0, 1) := by decide +kernel
theorem dX6_init_13 : decode cX6_init 13 = .ok (.iconst 4, 1) := by decide +kernel
theorem dX6_init_14 : decode cX6_init 14 = .ok (.newarray .int, 2) := by decide +kernel
theorem dX6_init_16 : decode cX6_init 16 = .ok (.putfield 13, 3) := by decide +kernel
theorem dX6_init_19 : decode cX6_init 19 = .ok (.aload_n 0, 1) := by decide +kernel
theorem dX6_init_20 : decode cX6_init 20 = .ok (.bipush 80, 2) := by decide +kernel
theorem dX6_init_22 : decode cX6_init 22 = .ok (.newarray .int, 2) := by decide +kernel
theorem dX6_init_24 : decode cX6_init 24 = .ok (.putfield 16, 3) := by decide +kernel
theorem dX6_init_27 : decode cX6_init 27 = .ok (.aload_n 0, 1) := by decide +kernel
theorem dX6_init_28 : decode cX6_init 28 = .ok (.bipush 80, 2) := by decide +kernel
theorem dX6_init_30 : decode cX6_init 30 = .ok (.newarray .int, 2) := by decide +kernel
theorem dX6_init_32 : decode cX6_init 32 = .ok (.putfield 19, 3) := by decide +kernel
theorem dX6_init_35 : decode cX6_init 35 = .ok (.aload_n 0, 1) := by decide +kernel
theorem dX6_init_36 : decode cX6_init 36 = .ok (.bipush 80, 2) := by decide +kernel
theorem dX6_init_38 : decode cX6_init 38 = .ok (.newarray .int, 2) := by decide +kernel
theorem dX6_init_40 : decode cX6_init 40 = .ok (.putfield 22, 3) := by decide +kernel
theorem dX6_init_43 : decode cX6_init 43 = .ok (.aload_n 0, 1) := by decide +kernel
theorem dX6_init_44 : decode cX6_init 44 = .ok (.bipush 80, 2) := by decide +kernel
theorem dX6_init_46 : decode cX6_init 46 = .ok (.newarray .int, 2) := by decide +kernel
theorem dX6_init_48 : decode cX6_init 48 = .ok (.putfield 25, 3) := by decide +kernel
theorem dX6_init_51 : decode cX6_init 51 = .ok (.aload_n 0, 1) := by decide +kernel
theorem dX6_init_52 : decode cX6_init 52 = .ok (.iconst 4, 1) := by decide +kernel
theorem dX6_init_53 : decode cX6_init 53 = .ok (.newarray .int, 2) := by decide +kernel
theorem dX6_init_55 : decode cX6_init 55 = .ok (.putfield 28, 3) := by decide +kernel
theorem dX6_init_58 : decode cX6_init 58 = .ok (.aload_n 0, 1) := by decide +kernel
theorem dX6_init_59 : decode cX6_init 59 = .ok (.bipush 80, 2) := by decide +kernel
theorem dX6_init_61 : decode cX6_init 61 = .ok (.newarray .int, 2) := by decide +kernel
theorem dX6_init_63 : decode cX6_init 63 = .ok (.putfield 31, 3) := by decide +kernel
theorem dX6_init_66 : decode cX6_init 66 = .ok (.aload_n 0, 1) := by decide +kernel
theorem dX6_init_67 : decode cX6_init 67 = .ok (.bipush 80, 2) := by decide +kernel
theorem dX6_init_69 : decode cX6_init 69 = .ok (.newarray .int, 2) := by decide +kernel
theorem dX6_init_71 : decode cX6_init 71 = .ok (.putfield 34, 3) := by decide +kernel
theorem dX6_init_74 : decode cX6_init 74 = .ok (.aload_n 0, 1) := by decide +kernel
theorem dX6_init_75 : decode cX6_init 75 = .ok (.bipush 80, 2) := by decide +kernel
theorem dX6_init_77 : decode cX6_init 77 = .ok (.newarray .int, 2) := by decide +kernel
theorem dX6_init_79 : decode cX6_init 79 = .ok (.putfield 37, 3) := by decide +kernel
theorem dX6_init_82 : decode cX6_init 82 = .ok (.aload_n 0, 1) := by decide +kernel
theorem dX6_init_83 : decode cX6_init 83 = .ok (.bipush 80, 2) := by decide +kernel
theorem dX6_init_85 : decode cX6_init 85 = .ok (.newarray .int, 2) := by decide +kernel
theorem dX6_init_87 : decode cX6_init 87 = .ok (.putfield 40, 3) := by decide +kernel
theorem dX6_init_90 : decode cX6_init 90 = .ok (.aload_n 0, 1) := by decide +kernel
theorem dX6_init_91 : decode cX6_init 91 = .ok (.bipush 48, 2) := by decide +kernel
theorem dX6_init_93 : decode cX6_init 93 = .ok (.newarray .int, 2) := by decide +kernel
theorem dX6_init_95 : decode cX6_init 95 = .ok (.putfield 43, 3) := by decide +kernel
theorem dX6_init_98 : decode cX6_init 98 = .ok (.aload_n 0, 1) := by decide +kernel
theorem dX6_init_99 : decode cX6_init 99 = .ok (.bipush 48, 2) := by decide +kernel
theorem dX6_init_101 : decode cX6_init 101 = .ok (.newarray .int, 2) := by decide +kernel
theorem dX6_init_103 : decode cX6_init 103 = .ok (.putfield 46, 3) := by decide +kernel
theorem dX6_init_106 : decode cX6_init 106 = .ok (.aload_n 0, 1) := by decide +kernel
theorem dX6_init_107 : decode cX6_init 107 = .ok (.sipush 480, 3) := by decide +kernel
theorem dX6_init_110 : decode cX6_init 110 = .ok (.newarray .int, 2) := by decide +kernel
theorem dX6_init_112 : decode cX6_init 112 = .ok (.putfield 49, 3) := by decide +kernel
theorem dX6_init_115 : decode cX6_init 115 = .ok (.aload_n 0, 1) := by decide +kernel
theorem dX6_init_116 : decode cX6_init 116 = .ok (.bipush 96, 2) := by decide +kernel
theorem dX6_init_118 : decode cX6_init 118 = .ok (.newarray .int, 2) := by decide +kernel
theorem dX6_init_120 : decode cX6_init 120 = .ok (.putfield 52, 3) := by decide +kernel
theorem dX6_init_123 : decode cX6_init 123 = .ok (.aload_n 0, 1) := by decide +kernel
theorem dX6_init_124 : decode cX6_init 124 = .ok (.iconst 2, 1) := by decide +kernel
theorem dX6_init_125 : decode cX6_init 125 = .ok (.newarray .boolean, 2) := by decide +kernel
theorem dX6_init_127 : decode cX6_init 127 = .ok (.putfield 55, 3) := by decide +kernel
theorem dX6_init_130 : decode cX6_init 130 = .ok (.aload_n 0, 1) := by decide +kernel
theorem dX6_init_131 : decode cX6_init 131 = .ok (.bipush 6, 2) := by decide +kernel
theorem dX6_init_133 : decode cX6_init 133 = .ok (.newarray .int, 2) := by decide +kernel
theorem dX6_init_135 : decode cX6_init 135 = .ok (.putfield 59, 3) := by decide +kernel
theorem dX6_init_138 : decode cX6_init 138 = .ok (.aload_n 0, 1) := by decide +kernel
theorem dX6_init_139 : decode cX6_init 139 = .ok (.bipush 6, 2) := by decide +kernel
theorem dX6_init_141 : decode cX6_init 141 = .ok (.newarray .long, 2) := by decide +kernel
theorem dX6_init_143 : decode cX6_init 143 = .ok (.putfield 62, 3) := by decide +kernel
theorem dX6_init_146 : decode cX6_init 146 = .ok (.aload_n 0, 1) := by decide +kernel
theorem dX6_init_147 : decode cX6_init 147 = .ok (.bipush 32, 2) := by decide +kernel
theorem dX6_init_149 : decode cX6_init 149 = .ok (.newarray .int, 2) := by decide +kernel
theorem dX6_init_151 : decode cX6_init 151 = .ok (.putfield 66, 3) := by decide +kernel
theorem dX6_init_154 : decode cX6_init 154 = .ok (.aload_n 0, 1) := by decide +kernel
theorem dX6_init_155 : decode cX6_init 155 = .ok (.sipush 128, 3) := by decide +kernel
theorem dX6_init_158 : decode cX6_init 158 = .ok (.newarray .int, 2) := by decide +kernel
theorem dX6_init_160 : decode cX6_init 160 = .ok (.putfield 69, 3) := by decide +kernel
theorem dX6_init_163 : decode cX6_init 163 = .ok (.aload_n 0, 1) := by decide +kernel
theorem dX6_init_164 : decode cX6_init 164 = .ok (.bipush 80, 2) := by decide +kernel
theorem dX6_init_166 : decode cX6_init 166 = .ok (.newarray .long, 2) := by decide +kernel
theorem dX6_init_168 : decode cX6_init 168 = .ok (.putfield 72, 3) := by decide +kernel
theorem dX6_init_171 : decode cX6_init 171 = .ok (.aload_n 0, 1) := by decide +kernel
theorem dX6_init_172 : decode cX6_init 172 = .ok (.sipush 480, 3) := by decide +kernel
theorem dX6_init_175 : decode cX6_init 175 = .ok (.newarray .long, 2) := by decide +kernel
theorem dX6_init_177 : decode cX6_init 177 = .ok (.putfield 75, 3) := by decide +kernel
theorem dX6_init_180 : decode cX6_init 180 = .ok (.aload_n 0, 1) := by decide +kernel
theorem dX6_init_181 : decode cX6_init 181 = .ok (.sipush 2880, 3) := by decide +kernel
theorem dX6_init_184 : decode cX6_init 184 = .ok (.newarray .long, 2) := by decide +kernel
theorem dX6_init_186 : decode cX6_init 186 = .ok (.putfield 78, 3) := by decide +kernel
theorem dX6_init_189 : decode cX6_init 189 = .ok (.aload_n 0, 1) := by decide +kernel
theorem dX6_init_190 : decode cX6_init 190 = .ok (.iconst 4, 1) := by decide +kernel
theorem dX6_init_191 : decode cX6_init 191 = .ok (.newarray .int, 2) := by decide +kernel
theorem dX6_init_193 : decode cX6_init 193 = .ok (.putfield 81, 3) := by decide +kernel
theorem dX6_init_196 : decode cX6_init 196 = .ok (.aload_n 0, 1) := by decide +kernel
theorem dX6_init_197 : decode cX6_init 197 = .ok (.iconst 4, 1) := by decide +kernel
theorem dX6_init_198 : decode cX6_init 198 = .ok (.newarray .int, 2) := by decide +kernel
theorem dX6_init_200 : decode cX6_init 200 = .ok (.putfield 84, 3) := by decide +kernel
theorem dX6_init_203 : decode cX6_init 203 = .ok (.aload_n 0, 1) := by decide +kernel
theorem dX6_init_204 : decode cX6_init 204 = .ok (.invokevirtual 87, 3) := by decide +kernel
theorem dX6_init_207 : decode cX6_init 207 = .ok (.aload_n 0, 1) := by decide +kernel
theorem dX6_init_208 : decode cX6_init 208 = .ok (.invokevirtual 90, 3) := by decide +kernel
theorem dX6_init_211 : decode cX6_init 211 = .ok (.return_, 1) := by decide +kernel
theorem dX6_in_0 : decode cX6_in 0 = .ok (.iload_n 0, 1) := by decide +kernel
theorem dX6_in_1 : decode cX6_in 1 = .ok (.iload_n 1, 1) := by decide +kernel
theorem dX6_in_2 : decode cX6_in 2 = .ok (.if_icmp .lt 12, 3) := by decide +kernel
theorem dX6_in_5 : decode cX6_in 5 = .ok (.iload_n 0, 1) := by decide +kernel
theorem dX6_in_6 : decode cX6_in 6 = .ok (.iload_n 2, 1) := by decide +kernel
theorem dX6_in_7 : decode cX6_in 7 = .ok (.if_icmp .gt 7, 3) := by decide +kernel
theorem dX6_in_10 : decode cX6_in 10 = .ok (.iconst 1, 1) := by decide +kernel
theorem dX6_in_11 : decode cX6_in 11 = .ok (.goto 4, 3) := by decide +kernel
theorem dX6_in_14 : decode cX6_in 14 = .ok (.iconst 0, 1) := by decide +kernel
theorem dX6_in_15 : decode cX6_in 15 = .ok (.ireturn, 1) := by decide +kernel
theorem dX6_has_0 : decode cX6_has 0 = .ok (.iload_n 0, 1) := by decide +kernel
theorem dX6_has_1 : decode cX6_has 1 = .ok (.iload_n 1, 1) := by decide +kernel
theorem dX6_has_2 : decode cX6_has 2 = .ok (.ishr, 1) := by decide +kernel
theorem dX6_has_3 : decode cX6_has 3 = .ok (.iconst 1, 1) := by decide +kernel
theorem dX6_has_4 : decode cX6_has 4 = .ok (.iand, 1) := by decide +kernel
theorem dX6_has_5 : decode cX6_has 5 = .ok (.iconst 1, 1) := by decide +kernel
theorem dX6_has_6 : decode cX6_has 6 = .ok (.if_icmp .ne 7, 3) := by decide +kernel
theorem dX6_has_9 : decode cX6_has 9 = .ok (.iconst 1, 1) := by decide +kernel
theorem dX6_has_10 : decode cX6_has 10 = .ok (.goto 4, 3) := by decide +kernel
theorem dX6_has_13 : decode cX6_has 13 = .ok (.iconst 0, 1) := by decide +kernel
theorem dX6_has_14 : decode cX6_has 14 = .ok (.ireturn, 1) := by decide +kernel
theorem dX6_ones_0 : decode cX6_ones 0 = .ok (.iconst 0, 1) := by decide +kernel
theorem dX6_ones_1 : decode cX6_ones 1 = .ok (.istore_n 1, 1) := by decide +kernel
theorem dX6_ones_2 : decode cX6_ones 2 = .ok (.iload_n 0, 1) := by decide +kernel
theorem dX6_ones_3 : decode cX6_ones 3 = .ok (.istore_n 2, 1) := by decide +kernel
theorem dX6_ones_4 : decode cX6_ones 4 = .ok (.iload_n 2, 1) := by decide +kernel
theorem dX6_ones_5 : decode cX6_ones 5 = .ok (.ifCond .eq 15, 3) := by decide +kernel
theorem dX6_ones_8 : decode cX6_ones 8 = .ok (.iinc 1 1, 3) := by decide +kernel
theorem dX6_ones_11 : decode cX6_ones 11 = .ok (.iload_n 2, 1) := by decide +kernel
theorem dX6_ones_12 : decode cX6_ones 12 = .ok (.iload_n 2, 1) := by decide +kernel
theorem dX6_ones_13 : decode cX6_ones 13 = .ok (.iconst 1, 1) := by decide +kernel
theorem dX6_ones_14 : decode cX6_ones 14 = .ok (.isub, 1) := by decide +kernel
theorem dX6_ones_15 : decode cX6_ones 15 = .ok (.iand, 1) := by decide +kernel
theorem dX6_ones_16 : decode cX6_ones 16 = .ok (.istore_n 2, 1) := by decide +kernel
theorem dX6_ones_17 : decode cX6_ones 17 = .ok (.goto (-13), 3) := by decide +kernel
theorem dX6_ones_20 : decode cX6_ones 20 = .ok (.iload_n 1, 1) := by decide +kernel
theorem dX6_ones_21 : decode cX6_ones 21 = .ok (.ireturn, 1) := by decide +kernel
theorem dX6_type_0 : decode cX6_type 0 = .ok (.aload_n 0, 1) := by decide +kernel
theorem dX6_type_1 : decode cX6_type 1 = .ok (.iconst 0, 1) := by decide +kernel
theorem dX6_type_2 : decode cX6_type 2 = .ok (.putfield 93, 3) := by decide +kernel
theorem dX6_type_5 : decode cX6_type 5 = .ok (.iload_n 1, 1) := by decide +kernel
theorem dX6_type_6 : decode cX6_type 6 = .ok (.iconst 0, 1) := by decide +kernel
theorem dX6_type_7 : decode cX6_type 7 = .ok (.sipush 255, 3) := by decide +kernel
theorem dX6_type_10 : decode cX6_type 10 = .ok (.invokestatic 97, 3) := by decide +kernel
theorem dX6_type_13 : decode cX6_type 13 = .ok (.ifCond .ne 5, 3) := by decide +kernel
theorem dX6_type_16 : decode cX6_type 16 = .ok (.iconst (-1), 1) := by decide +kernel
theorem dX6_type_17 : decode cX6_type 17 = .ok (.ireturn, 1) := by decide +kernel
theorem dX6_type_18 : decode cX6_type 18 = .ok (.aload_n 0, 1) := by decide +kernel
theorem dX6_type_19 : decode cX6_type 19 = .ok (.getfield 101, 3) := by decide +kernel
theorem dX6_type_22 : decode cX6_type 22 = .ok (.bipush 100, 2) := by decide +kernel
theorem dX6_type_24 : decode cX6_type 24 = .ok (.if_icmp .ne 6, 3) := by decide +kernel
theorem dX6_type_27 : decode cX6_type 27 = .ok (.bipush (-3), 2) := by decide +kernel
theorem dX6_type_29 : decode cX6_type 29 = .ok (.ireturn, 1) := by decide +kernel
theorem dX6_type_30 : decode cX6_type 30 = .ok (.aload_n 0, 1) := by decide +kernel
theorem dX6_type_31 : decode cX6_type 31 = .ok (.getfield 7, 3) := by decide +kernel
theorem dX6_type_34 : decode cX6_type 34 = .ok (.aload_n 0, 1) := by decide +kernel
theorem dX6_type_35 : decode cX6_type 35 = .ok (.getfield 101, 3) := by decide +kernel
theorem dX6_type_38 : decode cX6_type 38 = .ok (.iload_n 1, 1) := by decide +kernel
theorem dX6_type_39 : decode cX6_type 39 = .ok (.iastore, 1) := by decide +kernel
theorem dX6_type_40 : decode cX6_type 40 = .ok (.aload_n 0, 1) := by decide +kernel
theorem dX6_type_41 : decode cX6_type 41 = .ok (.dup, 1) := by decide +kernel
theorem dX6_type_42 : decode cX6_type 42 = .ok (.getfield 101, 3) := by decide +kernel
theorem dX6_type_45 : decode cX6_type 45 = .ok (.iconst 1, 1) := by decide +kernel
theorem dX6_type_46 : decode cX6_type 46 = .ok (.iadd, 1) := by decide +kernel
theorem dX6_type_47 : decode cX6_type 47 = .ok (.putfield 101, 3) := by decide +kernel
theorem dX6_type_50 : decode cX6_type 50 = .ok (.aload_n 0, 1) := by decide +kernel
theorem dX6_type_51 : decode cX6_type 51 = .ok (.getfield 101, 3) := by decide +kernel
theorem dX6_type_54 : decode cX6_type 54 = .ok (.ireturn, 1) := by decide +kernel
theorem dX6_clear_0 : decode cX6_clear 0 = .ok (.aload_n 0, 1) := by decide +kernel
theorem dX6_clear_1 : decode cX6_clear 1 = .ok (.iconst 0, 1) := by decide +kernel
theorem dX6_clear_2 : decode cX6_clear 2 = .ok (.putfield 93, 3) := by decide +kernel
theorem dX6_clear_5 : decode cX6_clear 5 = .ok (.aload_n 0, 1) := by decide +kernel
theorem dX6_clear_6 : decode cX6_clear 6 = .ok (.getfield 101, 3) := by decide +kernel
theorem dX6_clear_9 : decode cX6_clear 9 = .ok (.istore_n 1, 1) := by decide +kernel
theorem dX6_clear_10 : decode cX6_clear 10 = .ok (.aload_n 0, 1) := by decide +kernel
theorem dX6_clear_11 : decode cX6_clear 11 = .ok (.iconst 0, 1) := by decide +kernel
theorem dX6_clear_12 : decode cX6_clear 12 = .ok (.putfield 101, 3) := by decide +kernel
theorem dX6_clear_15 : decode cX6_clear 15 = .ok (.iload_n 1, 1) := by decide +kernel
theorem dX6_clear_16 : decode cX6_clear 16 = .ok (.ireturn, 1) := by decide +kernel
theorem dX6_letterAt_0 : decode cX6_letterAt 0 = .ok (.iload_n 1, 1) := by decide +kernel
theorem dX6_letterAt_1 : decode cX6_letterAt 1 = .ok (.aload_n 0, 1) := by decide +kernel
theorem dX6_letterAt_2 : decode cX6_letterAt 2 = .ok (.getfield 101, 3) := by decide +kernel
theorem dX6_letterAt_5 : decode cX6_letterAt 5 = .ok (.if_icmp .ge 12, 3) := by decide +kernel
theorem dX6_letterAt_8 : decode cX6_letterAt 8 = .ok (.aload_n 0, 1) := by decide +kernel
theorem dX6_letterAt_9 : decode cX6_letterAt 9 = .ok (.getfield 7, 3) := by decide +kernel
theorem dX6_letterAt_12 : decode cX6_letterAt 12 = .ok (.iload_n 1, 1) := by decide +kernel
theorem dX6_letterAt_13 : decode cX6_letterAt 13 = .ok (.iaload, 1) := by decide +kernel
theorem dX6_letterAt_14 : decode cX6_letterAt 14 = .ok (.goto 4, 3) := by decide +kernel
theorem dX6_letterAt_17 : decode cX6_letterAt 17 = .ok (.iconst (-1), 1) := by decide +kernel
theorem dX6_letterAt_18 : decode cX6_letterAt 18 = .ok (.ireturn, 1) := by decide +kernel
theorem dX6_isSign_0 : decode cX6_isSign 0 = .ok (.iload_n 0, 1) := by decide +kernel
theorem dX6_isSign_1 : decode cX6_isSign 1 = .ok (.bipush 83, 2) := by decide +kernel
theorem dX6_isSign_3 : decode cX6_isSign 3 = .ok (.if_icmp .eq 74, 3) := by decide +kernel
theorem dX6_isSign_6 : decode cX6_isSign 6 = .ok (.iload_n 0, 1) := by decide +kernel
theorem dX6_isSign_7 : decode cX6_isSign 7 = .ok (.bipush 67, 2) := by decide +kernel
theorem dX6_isSign_9 : decode cX6_isSign 9 = .ok (.if_icmp .eq 68, 3) := by decide +kernel
theorem dX6_isSign_12 : decode cX6_isSign 12 = .ok (.iload_n 0, 1) := by decide +kernel
theorem dX6_isSign_13 : decode cX6_isSign 13 = .ok (.bipush 70, 2) := by decide +kernel
theorem dX6_isSign_15 : decode cX6_isSign 15 = .ok (.if_icmp .eq 62, 3) := by decide +kernel
theorem dX6_isSign_18 : decode cX6_isSign 18 = .ok (.iload_n 0, 1) := by decide +kernel
theorem dX6_isSign_19 : decode cX6_isSign 19 = .ok (.bipush 97, 2) := by decide +kernel
theorem dX6_isSign_21 : decode cX6_isSign 21 = .ok (.bipush 102, 2) := by decide +kernel
theorem dX6_isSign_23 : decode cX6_isSign 23 = .ok (.invokestatic 97, 3) := by decide +kernel
theorem dX6_isSign_26 : decode cX6_isSign 26 = .ok (.ifCond .ne 51, 3) := by decide +kernel
theorem dX6_isSign_29 : decode cX6_isSign 29 = .ok (.iload_n 0, 1) := by decide +kernel
theorem dX6_isSign_30 : decode cX6_isSign 30 = .ok (.bipush 43, 2) := by decide +kernel
theorem dX6_isSign_32 : decode cX6_isSign 32 = .ok (.if_icmp .eq 45, 3) := by decide +kernel
theorem dX6_isSign_35 : decode cX6_isSign 35 = .ok (.iload_n 0, 1) := by decide +kernel
theorem dX6_isSign_36 : decode cX6_isSign 36 = .ok (.bipush 45, 2) := by decide +kernel
theorem dX6_isSign_38 : decode cX6_isSign 38 = .ok (.if_icmp .eq 39, 3) := by decide +kernel
theorem dX6_isSign_41 : decode cX6_isSign 41 = .ok (.iload_n 0, 1) := by decide +kernel
theorem dX6_isSign_42 : decode cX6_isSign 42 = .ok (.bipush 42, 2) := by decide +kernel
theorem dX6_isSign_44 : decode cX6_isSign 44 = .ok (.if_icmp .eq 33, 3) := by decide +kernel
theorem dX6_isSign_47 : decode cX6_isSign 47 = .ok (.iload_n 0, 1) := by decide +kernel
theorem dX6_isSign_48 : decode cX6_isSign 48 = .ok (.bipush 94, 2) := by decide +kernel
theorem dX6_isSign_50 : decode cX6_isSign 50 = .ok (.if_icmp .eq 27, 3) := by decide +kernel
theorem dX6_isSign_53 : decode cX6_isSign 53 = .ok (.iload_n 0, 1) := by decide +kernel
theorem dX6_isSign_54 : decode cX6_isSign 54 = .ok (.bipush 40, 2) := by decide +kernel
theorem dX6_isSign_56 : decode cX6_isSign 56 = .ok (.if_icmp .eq 21, 3) := by decide +kernel
theorem dX6_isSign_59 : decode cX6_isSign 59 = .ok (.iload_n 0, 1) := by decide +kernel
theorem dX6_isSign_60 : decode cX6_isSign 60 = .ok (.bipush 41, 2) := by decide +kernel
theorem dX6_isSign_62 : decode cX6_isSign 62 = .ok (.if_icmp .eq 15, 3) := by decide +kernel
theorem dX6_isSign_65 : decode cX6_isSign 65 = .ok (.iload_n 0, 1) := by decide +kernel
theorem dX6_isSign_66 : decode cX6_isSign 66 = .ok (.bipush 64, 2) := by decide +kernel
theorem dX6_isSign_68 : decode cX6_isSign 68 = .ok (.if_icmp .eq 9, 3) := by decide +kernel
theorem dX6_isSign_71 : decode cX6_isSign 71 = .ok (.iload_n 0, 1) := by decide +kernel
theorem dX6_isSign_72 : decode cX6_isSign 72 = .ok (.bipush 59, 2) := by decide +kernel
theorem dX6_isSign_74 : decode cX6_isSign 74 = .ok (.if_icmp .ne 7, 3) := by decide +kernel
theorem dX6_isSign_77 : decode cX6_isSign 77 = .ok (.iconst 1, 1) := by decide +kernel
theorem dX6_isSign_78 : decode cX6_isSign 78 = .ok (.goto 4, 3) := by decide +kernel
theorem dX6_isSign_81 : decode cX6_isSign 81 = .ok (.iconst 0, 1) := by decide +kernel
theorem dX6_isSign_82 : decode cX6_isSign 82 = .ok (.ireturn, 1) := by decide +kernel
theorem dX6_advances_0 : decode cX6_advances 0 = .ok (.aload_n 0, 1) := by decide +kernel
theorem dX6_advances_1 : decode cX6_advances 1 = .ok (.aload_n 0, 1) := by decide +kernel
theorem dX6_advances_2 : decode cX6_advances 2 = .ok (.getfield 104, 3) := by decide +kernel
theorem dX6_advances_5 : decode cX6_advances 5 = .ok (.invokevirtual 107, 3) := by decide +kernel
theorem dX6_advances_8 : decode cX6_advances 8 = .ok (.bipush 32, 2) := by decide +kernel
theorem dX6_advances_10 : decode cX6_advances 10 = .ok (.if_icmp .ne 16, 3) := by decide +kernel
theorem dX6_advances_13 : decode cX6_advances 13 = .ok (.aload_n 0, 1) := by decide +kernel
theorem dX6_advances_14 : decode cX6_advances 14 = .ok (.dup, 1) := by decide +kernel
theorem dX6_advances_15 : decode cX6_advances 15 = .ok (.getfield 104, 3) := by decide +kernel
theorem dX6_advances_18 : decode cX6_advances 18 = .ok (.iconst 1, 1) := by decide +kernel
theorem dX6_advances_19 : decode cX6_advances 19 = .ok (.iadd, 1) := by decide +kernel
theorem dX6_advances_20 : decode cX6_advances 20 = .ok (.putfield 104, 3) := by decide +kernel
theorem dX6_advances_23 : decode cX6_advances 23 = .ok (.goto (-23), 3) := by decide +kernel
theorem dX6_advances_26 : decode cX6_advances 26 = .ok (.aload_n 0, 1) := by decide +kernel
theorem dX6_advances_27 : decode cX6_advances 27 = .ok (.aload_n 0, 1) := by decide +kernel
theorem dX6_advances_28 : decode cX6_advances 28 = .ok (.getfield 104, 3) := by decide +kernel
theorem dX6_advances_31 : decode cX6_advances 31 = .ok (.putfield 111, 3) := by decide +kernel
theorem dX6_advances_34 : decode cX6_advances 34 = .ok (.aload_n 0, 1) := by decide +kernel
theorem dX6_advances_35 : decode cX6_advances 35 = .ok (.aload_n 0, 1) := by decide +kernel
theorem dX6_advances_36 : decode cX6_advances 36 = .ok (.getfield 104, 3) := by decide +kernel
theorem dX6_advances_39 : decode cX6_advances 39 = .ok (.invokevirtual 107, 3) := by decide +kernel
theorem dX6_advances_42 : decode cX6_advances 42 = .ok (.istore_n 1, 1) := by decide +kernel
theorem dX6_advances_43 : decode cX6_advances 43 = .ok (.iload_n 1, 1) := by decide +kernel
theorem dX6_advances_44 : decode cX6_advances 44 = .ok (.ifCond .ge 11, 3) := by decide +kernel
theorem dX6_advances_47 : decode cX6_advances 47 = .ok (.aload_n 0, 1) := by decide +kernel
theorem dX6_advances_48 : decode cX6_advances 48 = .ok (.iconst 0, 1) := by decide +kernel
theorem dX6_advances_49 : decode cX6_advances 49 = .ok (.putfield 114, 3) := by decide +kernel
theorem dX6_advances_52 : decode cX6_advances 52 = .ok (.goto 160, 3) := by decide +kernel
theorem dX6_advances_55 : decode cX6_advances 55 = .ok (.iload_n 1, 1) := by decide +kernel
theorem dX6_advances_56 : decode cX6_advances 56 = .ok (.bipush 48, 2) := by decide +kernel
theorem dX6_advances_58 : decode cX6_advances 58 = .ok (.bipush 57, 2) := by decide +kernel
theorem dX6_advances_60 : decode cX6_advances 60 = .ok (.invokestatic 97, 3) := by decide +kernel
theorem dX6_advances_63 : decode cX6_advances 63 = .ok (.ifCond .eq 118, 3) := by decide +kernel
theorem dX6_advances_66 : decode cX6_advances 66 = .ok (.aload_n 0, 1) := by decide +kernel
theorem dX6_advances_67 : decode cX6_advances 67 = .ok (.iconst 0, 1) := by decide +kernel
theorem dX6_advances_68 : decode cX6_advances 68 = .ok (.putfield 117, 3) := by decide +kernel
theorem dX6_advances_71 : decode cX6_advances 71 = .ok (.aload_n 0, 1) := by decide +kernel
theorem dX6_advances_72 : decode cX6_advances 72 = .ok (.aload_n 0, 1) := by decide +kernel
theorem dX6_advances_73 : decode cX6_advances 73 = .ok (.getfield 104, 3) := by decide +kernel
theorem dX6_advances_76 : decode cX6_advances 76 = .ok (.invokevirtual 107, 3) := by decide +kernel
theorem dX6_advances_79 : decode cX6_advances 79 = .ok (.bipush 48, 2) := by decide +kernel
theorem dX6_advances_81 : decode cX6_advances 81 = .ok (.bipush 57, 2) := by decide +kernel
theorem dX6_advances_83 : decode cX6_advances 83 = .ok (.invokestatic 97, 3) := by decide +kernel
theorem dX6_advances_86 : decode cX6_advances 86 = .ok (.ifCond .eq 55, 3) := by decide +kernel
theorem dX6_advances_89 : decode cX6_advances 89 = .ok (.aload_n 0, 1) := by decide +kernel
theorem dX6_advances_90 : decode cX6_advances 90 = .ok (.aload_n 0, 1) := by decide +kernel
theorem dX6_advances_91 : decode cX6_advances 91 = .ok (.getfield 117, 3) := by decide +kernel
theorem dX6_advances_94 : decode cX6_advances 94 = .ok (.bipush 99, 2) := by decide +kernel
theorem dX6_advances_96 : decode cX6_advances 96 = .ok (.if_icmp .le 10, 3) := by decide +kernel
theorem dX6_advances_99 : decode cX6_advances 99 = .ok (.aload_n 0, 1) := by decide +kernel
theorem dX6_advances_100 : decode cX6_advances 100 = .ok (.getfield 117, 3) := by decide +kernel
theorem dX6_advances_103 : decode cX6_advances 103 = .ok (.goto 22, 3) := by decide +kernel
theorem dX6_advances_106 : decode cX6_advances 106 = .ok (.bipush 10, 2) := by decide +kernel
theorem dX6_advances_108 : decode cX6_advances 108 = .ok (.aload_n 0, 1) := by decide +kernel
theorem dX6_advances_109 : decode cX6_advances 109 = .ok (.getfield 117, 3) := by decide +kernel
theorem dX6_advances_112 : decode cX6_advances 112 = .ok (.imul, 1) := by decide +kernel
theorem dX6_advances_113 : decode cX6_advances 113 = .ok (.aload_n 0, 1) := by decide +kernel
theorem dX6_advances_114 : decode cX6_advances 114 = .ok (.aload_n 0, 1) := by decide +kernel
theorem dX6_advances_115 : decode cX6_advances 115 = .ok (.getfield 104, 3) := by decide +kernel
theorem dX6_advances_118 : decode cX6_advances 118 = .ok (.invokevirtual 107, 3) := by decide +kernel
theorem dX6_advances_121 : decode cX6_advances 121 = .ok (.iadd, 1) := by decide +kernel
theorem dX6_advances_122 : decode cX6_advances 122 = .ok (.bipush 48, 2) := by decide +kernel
theorem dX6_advances_124 : decode cX6_advances 124 = .ok (.isub, 1) := by decide +kernel
theorem dX6_advances_125 : decode cX6_advances 125 = .ok (.putfield 117, 3) := by decide +kernel
theorem dX6_advances_128 : decode cX6_advances 128 = .ok (.aload_n 0, 1) := by decide +kernel
theorem dX6_advances_129 : decode cX6_advances 129 = .ok (.dup, 1) := by decide +kernel
theorem dX6_advances_130 : decode cX6_advances 130 = .ok (.getfield 104, 3) := by decide +kernel
theorem dX6_advances_133 : decode cX6_advances 133 = .ok (.iconst 1, 1) := by decide +kernel
theorem dX6_advances_134 : decode cX6_advances 134 = .ok (.iadd, 1) := by decide +kernel
theorem dX6_advances_135 : decode cX6_advances 135 = .ok (.putfield 104, 3) := by decide +kernel
theorem dX6_advances_138 : decode cX6_advances 138 = .ok (.goto (-67), 3) := by decide +kernel
theorem dX6_advances_141 : decode cX6_advances 141 = .ok (.aload_n 0, 1) := by decide +kernel
theorem dX6_advances_142 : decode cX6_advances 142 = .ok (.aload_n 0, 1) := by decide +kernel
theorem dX6_advances_143 : decode cX6_advances 143 = .ok (.getfield 117, 3) := by decide +kernel
theorem dX6_advances_146 : decode cX6_advances 146 = .ok (.bipush 99, 2) := by decide +kernel
theorem dX6_advances_148 : decode cX6_advances 148 = .ok (.if_icmp .gt 22, 3) := by decide +kernel
theorem dX6_advances_151 : decode cX6_advances 151 = .ok (.iload_n 1, 1) := by decide +kernel
theorem dX6_advances_152 : decode cX6_advances 152 = .ok (.bipush 48, 2) := by decide +kernel
theorem dX6_advances_154 : decode cX6_advances 154 = .ok (.if_icmp .ne 20, 3) := by decide +kernel
theorem dX6_advances_157 : decode cX6_advances 157 = .ok (.aload_n 0, 1) := by decide +kernel
theorem dX6_advances_158 : decode cX6_advances 158 = .ok (.getfield 104, 3) := by decide +kernel
theorem dX6_advances_161 : decode cX6_advances 161 = .ok (.aload_n 0, 1) := by decide +kernel
theorem dX6_advances_162 : decode cX6_advances 162 = .ok (.getfield 111, 3) := by decide +kernel
theorem dX6_advances_165 : decode cX6_advances 165 = .ok (.isub, 1) := by decide +kernel
theorem dX6_advances_166 : decode cX6_advances 166 = .ok (.iconst 1, 1) := by decide +kernel
theorem dX6_advances_167 : decode cX6_advances 167 = .ok (.if_icmp .le 7, 3) := by decide +kernel
theorem dX6_advances_170 : decode cX6_advances 170 = .ok (.iconst 3, 1) := by decide +kernel
theorem dX6_advances_171 : decode cX6_advances 171 = .ok (.goto 4, 3) := by decide +kernel
theorem dX6_advances_174 : decode cX6_advances 174 = .ok (.iconst 2, 1) := by decide +kernel
theorem dX6_advances_175 : decode cX6_advances 175 = .ok (.putfield 114, 3) := by decide +kernel
theorem dX6_advances_178 : decode cX6_advances 178 = .ok (.goto 34, 3) := by decide +kernel
theorem dX6_advances_181 : decode cX6_advances 181 = .ok (.aload_n 0, 1) := by decide +kernel
theorem dX6_advances_182 : decode cX6_advances 182 = .ok (.dup, 1) := by decide +kernel
theorem dX6_advances_183 : decode cX6_advances 183 = .ok (.getfield 104, 3) := by decide +kernel
theorem dX6_advances_186 : decode cX6_advances 186 = .ok (.iconst 1, 1) := by decide +kernel
theorem dX6_advances_187 : decode cX6_advances 187 = .ok (.iadd, 1) := by decide +kernel
theorem dX6_advances_188 : decode cX6_advances 188 = .ok (.putfield 104, 3) := by decide +kernel
theorem dX6_advances_191 : decode cX6_advances 191 = .ok (.aload_n 0, 1) := by decide +kernel
theorem dX6_advances_192 : decode cX6_advances 192 = .ok (.iload_n 1, 1) := by decide +kernel
theorem dX6_advances_193 : decode cX6_advances 193 = .ok (.putfield 117, 3) := by decide +kernel
theorem dX6_advances_196 : decode cX6_advances 196 = .ok (.aload_n 0, 1) := by decide +kernel
theorem dX6_advances_197 : decode cX6_advances 197 = .ok (.iload_n 1, 1) := by decide +kernel
theorem dX6_advances_198 : decode cX6_advances 198 = .ok (.invokestatic 120, 3) := by decide +kernel
theorem dX6_advances_201 : decode cX6_advances 201 = .ok (.ifCond .eq 7, 3) := by decide +kernel
theorem dX6_advances_204 : decode cX6_advances 204 = .ok (.iconst 1, 1) := by decide +kernel
theorem dX6_advances_205 : decode cX6_advances 205 = .ok (.goto 4, 3) := by decide +kernel
theorem dX6_advances_208 : decode cX6_advances 208 = .ok (.iconst 3, 1) := by decide +kernel
theorem dX6_advances_209 : decode cX6_advances 209 = .ok (.putfield 114, 3) := by decide +kernel
theorem dX6_advances_212 : decode cX6_advances 212 = .ok (.return_, 1) := by decide +kernel
theorem dX6_isWell_0 : decode cX6_isWell 0 = .ok (.aload_n 0, 1) := by decide +kernel
theorem dX6_isWell_1 : decode cX6_isWell 1 = .ok (.getfield 124, 3) := by decide +kernel
theorem dX6_isWell_4 : decode cX6_isWell 4 = .ok (.ifCond .ge 7, 3) := by decide +kernel
theorem dX6_isWell_7 : decode cX6_isWell 7 = .ok (.iconst 1, 1) := by decide +kernel
theorem dX6_isWell_8 : decode cX6_isWell 8 = .ok (.goto 4, 3) := by decide +kernel
theorem dX6_isWell_11 : decode cX6_isWell 11 = .ok (.iconst 0, 1) := by decide +kernel
theorem dX6_isWell_12 : decode cX6_isWell 12 = .ok (.ireturn, 1) := by decide +kernel
theorem dX6_takes_0 : decode cX6_takes 0 = .ok (.aload_n 0, 1) := by decide +kernel
theorem dX6_takes_1 : decode cX6_takes 1 = .ok (.invokevirtual 127, 3) := by decide +kernel
theorem dX6_takes_4 : decode cX6_takes 4 = .ok (.ifCond .ne 5, 3) := by decide +kernel
theorem dX6_takes_7 : decode cX6_takes 7 = .ok (.iconst 0, 1) := by decide +kernel
theorem dX6_takes_8 : decode cX6_takes 8 = .ok (.ireturn, 1) := by decide +kernel
theorem dX6_takes_9 : decode cX6_takes 9 = .ok (.iload_n 1, 1) := by decide +kernel
theorem dX6_takes_10 : decode cX6_takes 10 = .ok (.ifCond .ne 13, 3) := by decide +kernel
theorem dX6_takes_13 : decode cX6_takes 13 = .ok (.aload_n 0, 1) := by decide +kernel
theorem dX6_takes_14 : decode cX6_takes 14 = .ok (.aload_n 0, 1) := by decide +kernel
theorem dX6_takes_15 : decode cX6_takes 15 = .ok (.getfield 111, 3) := by decide +kernel
theorem dX6_takes_18 : decode cX6_takes 18 = .ok (.putfield 124, 3) := by decide +kernel
theorem dX6_takes_21 : decode cX6_takes 21 = .ok (.iconst 0, 1) := by decide +kernel
theorem dX6_takes_22 : decode cX6_takes 22 = .ok (.ireturn, 1) := by decide +kernel
theorem dX6_takes_23 : decode cX6_takes 23 = .ok (.aload_n 0, 1) := by decide +kernel
theorem dX6_takes_24 : decode cX6_takes 24 = .ok (.getfield 117, 3) := by decide +kernel
theorem dX6_takes_27 : decode cX6_takes 27 = .ok (.istore_n 2, 1) := by decide +kernel
theorem dX6_takes_28 : decode cX6_takes 28 = .ok (.aload_n 0, 1) := by decide +kernel
theorem dX6_takes_29 : decode cX6_takes 29 = .ok (.invokevirtual 131, 3) := by decide +kernel
theorem dX6_takes_32 : decode cX6_takes 32 = .ok (.iload_n 2, 1) := by decide +kernel
theorem dX6_takes_33 : decode cX6_takes 33 = .ok (.ireturn, 1) := by decide +kernel
theorem dX6_isThis_0 : decode cX6_isThis 0 = .ok (.aload_n 0, 1) := by decide +kernel
theorem dX6_isThis_1 : decode cX6_isThis 1 = .ok (.invokevirtual 127, 3) := by decide +kernel
theorem dX6_isThis_4 : decode cX6_isThis 4 = .ok (.ifCond .eq 23, 3) := by decide +kernel
theorem dX6_isThis_7 : decode cX6_isThis 7 = .ok (.aload_n 0, 1) := by decide +kernel
theorem dX6_isThis_8 : decode cX6_isThis 8 = .ok (.getfield 114, 3) := by decide +kernel
theorem dX6_isThis_11 : decode cX6_isThis 11 = .ok (.iconst 1, 1) := by decide +kernel
theorem dX6_isThis_12 : decode cX6_isThis 12 = .ok (.if_icmp .ne 15, 3) := by decide +kernel
theorem dX6_isThis_15 : decode cX6_isThis 15 = .ok (.aload_n 0, 1) := by decide +kernel
theorem dX6_isThis_16 : decode cX6_isThis 16 = .ok (.getfield 117, 3) := by decide +kernel
theorem dX6_isThis_19 : decode cX6_isThis 19 = .ok (.iload_n 1, 1) := by decide +kernel
theorem dX6_isThis_20 : decode cX6_isThis 20 = .ok (.if_icmp .ne 7, 3) := by decide +kernel
theorem dX6_isThis_23 : decode cX6_isThis 23 = .ok (.iconst 1, 1) := by decide +kernel
theorem dX6_isThis_24 : decode cX6_isThis 24 = .ok (.goto 4, 3) := by decide +kernel
theorem dX6_isThis_27 : decode cX6_isThis 27 = .ok (.iconst 0, 1) := by decide +kernel
theorem dX6_isThis_28 : decode cX6_isThis 28 = .ok (.ireturn, 1) := by decide +kernel
theorem dX6_isSourceSign_0 : decode cX6_isSourceSign 0 = .ok (.aload_n 0, 1) := by decide +kernel
theorem dX6_isSourceSign_1 : decode cX6_isSourceSign 1 = .ok (.invokevirtual 127, 3) := by decide +kernel
theorem dX6_isSourceSign_4 : decode cX6_isSourceSign 4 = .ok (.ifCond .eq 29, 3) := by decide +kernel
theorem dX6_isSourceSign_7 : decode cX6_isSourceSign 7 = .ok (.aload_n 0, 1) := by decide +kernel
theorem dX6_isSourceSign_8 : decode cX6_isSourceSign 8 = .ok (.getfield 114, 3) := by decide +kernel
theorem dX6_isSourceSign_11 : decode cX6_isSourceSign 11 = .ok (.iconst 1, 1) := by decide +kernel
theorem dX6_isSourceSign_12 : decode cX6_isSourceSign 12 = .ok (.if_icmp .ne 21, 3) := by decide +kernel
theorem dX6_isSourceSign_15 : decode cX6_isSourceSign 15 = .ok (.aload_n 0, 1) := by decide +kernel
theorem dX6_isSourceSign_16 : decode cX6_isSourceSign 16 = .ok (.getfield 117, 3) := by decide +kernel
theorem dX6_isSourceSign_19 : decode cX6_isSourceSign 19 = .ok (.bipush 97, 2) := by decide +kernel
theorem dX6_isSourceSign_21 : decode cX6_isSourceSign 21 = .ok (.bipush 102, 2) := by decide +kernel
theorem dX6_isSourceSign_23 : decode cX6_isSourceSign 23 = .ok (.invokestatic 97, 3) := by decide +kernel
theorem dX6_isSourceSign_26 : decode cX6_isSourceSign 26 = .ok (.ifCond .eq 7, 3) := by decide +kernel
theorem dX6_isSourceSign_29 : decode cX6_isSourceSign 29 = .ok (.iconst 1, 1) := by decide +kernel
theorem dX6_isSourceSign_30 : decode cX6_isSourceSign 30 = .ok (.goto 4, 3) := by decide +kernel
theorem dX6_isSourceSign_33 : decode cX6_isSourceSign 33 = .ok (.iconst 0, 1) := by decide +kernel
theorem dX6_isSourceSign_34 : decode cX6_isSourceSign 34 = .ok (.ireturn, 1) := by decide +kernel
theorem dX6_isNumber_0 : decode cX6_isNumber 0 = .ok (.aload_n 0, 1) := by decide +kernel
theorem dX6_isNumber_1 : decode cX6_isNumber 1 = .ok (.invokevirtual 127, 3) := by decide +kernel
theorem dX6_isNumber_4 : decode cX6_isNumber 4 = .ok (.ifCond .eq 27, 3) := by decide +kernel
theorem dX6_isNumber_7 : decode cX6_isNumber 7 = .ok (.aload_n 0, 1) := by decide +kernel
theorem dX6_isNumber_8 : decode cX6_isNumber 8 = .ok (.getfield 114, 3) := by decide +kernel
theorem dX6_isNumber_11 : decode cX6_isNumber 11 = .ok (.iconst 2, 1) := by decide +kernel
theorem dX6_isNumber_12 : decode cX6_isNumber 12 = .ok (.if_icmp .ne 19, 3) := by decide +kernel
theorem dX6_isNumber_15 : decode cX6_isNumber 15 = .ok (.aload_n 0, 1) := by decide +kernel
theorem dX6_isNumber_16 : decode cX6_isNumber 16 = .ok (.getfield 117, 3) := by decide +kernel
theorem dX6_isNumber_19 : decode cX6_isNumber 19 = .ok (.iload_n 1, 1) := by decide +kernel
theorem dX6_isNumber_20 : decode cX6_isNumber 20 = .ok (.iload_n 2, 1) := by decide +kernel
theorem dX6_isNumber_21 : decode cX6_isNumber 21 = .ok (.invokestatic 97, 3) := by decide +kernel
theorem dX6_isNumber_24 : decode cX6_isNumber 24 = .ok (.ifCond .eq 7, 3) := by decide +kernel
theorem dX6_isNumber_27 : decode cX6_isNumber 27 = .ok (.iconst 1, 1) := by decide +kernel
theorem dX6_isNumber_28 : decode cX6_isNumber 28 = .ok (.goto 4, 3) := by decide +kernel
theorem dX6_isNumber_31 : decode cX6_isNumber 31 = .ok (.iconst 0, 1) := by decide +kernel
theorem dX6_isNumber_32 : decode cX6_isNumber 32 = .ok (.ireturn, 1) := by decide +kernel
theorem dX6_signed_0 : decode cX6_signed 0 = .ok (.aload_n 0, 1) := by decide +kernel
theorem dX6_signed_1 : decode cX6_signed 1 = .ok (.bipush 45, 2) := by decide +kernel
theorem dX6_signed_3 : decode cX6_signed 3 = .ok (.invokevirtual 134, 3) := by decide +kernel
theorem dX6_signed_6 : decode cX6_signed 6 = .ok (.istore_n 1, 1) := by decide +kernel
theorem dX6_signed_7 : decode cX6_signed 7 = .ok (.iload_n 1, 1) := by decide +kernel
theorem dX6_signed_8 : decode cX6_signed 8 = .ok (.ifCond .eq 9, 3) := by decide +kernel
theorem dX6_signed_11 : decode cX6_signed 11 = .ok (.aload_n 0, 1) := by decide +kernel
theorem dX6_signed_12 : decode cX6_signed 12 = .ok (.iconst 1, 1) := by decide +kernel
theorem dX6_signed_13 : decode cX6_signed 13 = .ok (.invokevirtual 137, 3) := by decide +kernel
theorem dX6_signed_16 : decode cX6_signed 16 = .ok (.pop, 1) := by decide +kernel
theorem dX6_signed_17 : decode cX6_signed 17 = .ok (.aload_n 0, 1) := by decide +kernel
theorem dX6_signed_18 : decode cX6_signed 18 = .ok (.aload_n 0, 1) := by decide +kernel
theorem dX6_signed_19 : decode cX6_signed 19 = .ok (.iconst 0, 1) := by decide +kernel
theorem dX6_signed_20 : decode cX6_signed 20 = .ok (.bipush 99, 2) := by decide +kernel
theorem dX6_signed_22 : decode cX6_signed 22 = .ok (.invokevirtual 141, 3) := by decide +kernel
theorem dX6_signed_25 : decode cX6_signed 25 = .ok (.invokevirtual 137, 3) := by decide +kernel
theorem dX6_signed_28 : decode cX6_signed 28 = .ok (.istore_n 2, 1) := by decide +kernel
theorem dX6_signed_29 : decode cX6_signed 29 = .ok (.iload_n 1, 1) := by decide +kernel
theorem dX6_signed_30 : decode cX6_signed 30 = .ok (.ifCond .eq 8, 3) := by decide +kernel
theorem dX6_signed_33 : decode cX6_signed 33 = .ok (.iload_n 2, 1) := by decide +kernel
theorem dX6_signed_34 : decode cX6_signed 34 = .ok (.ineg, 1) := by decide +kernel
theorem dX6_signed_35 : decode cX6_signed 35 = .ok (.goto 4, 3) := by decide +kernel
theorem dX6_signed_38 : decode cX6_signed 38 = .ok (.iload_n 2, 1) := by decide +kernel
theorem dX6_signed_39 : decode cX6_signed 39 = .ok (.ireturn, 1) := by decide +kernel
theorem dX6_begins_0 : decode cX6_begins 0 = .ok (.iconst 0, 1) := by decide +kernel
theorem dX6_begins_1 : decode cX6_begins 1 = .ok (.istore_n 1, 1) := by decide +kernel
theorem dX6_begins_2 : decode cX6_begins 2 = .ok (.iload_n 1, 1) := by decide +kernel
theorem dX6_begins_3 : decode cX6_begins 3 = .ok (.bipush 48, 2) := by decide +kernel
theorem dX6_begins_5 : decode cX6_begins 5 = .ok (.if_icmp .ge 16, 3) := by decide +kernel
theorem dX6_begins_8 : decode cX6_begins 8 = .ok (.aload_n 0, 1) := by decide +kernel
theorem dX6_begins_9 : decode cX6_begins 9 = .ok (.getfield 43, 3) := by decide +kernel
theorem dX6_begins_12 : decode cX6_begins 12 = .ok (.iload_n 1, 1) := by decide +kernel
theorem dX6_begins_13 : decode cX6_begins 13 = .ok (.iconst 0, 1) := by decide +kernel
theorem dX6_begins_14 : decode cX6_begins 14 = .ok (.iastore, 1) := by decide +kernel
theorem dX6_begins_15 : decode cX6_begins 15 = .ok (.iinc 1 1, 3) := by decide +kernel
theorem dX6_begins_18 : decode cX6_begins 18 = .ok (.goto (-16), 3) := by decide +kernel
theorem dX6_begins_21 : decode cX6_begins 21 = .ok (.aload_n 0, 1) := by decide +kernel
theorem dX6_begins_22 : decode cX6_begins 22 = .ok (.iconst 0, 1) := by decide +kernel
theorem dX6_begins_23 : decode cX6_begins 23 = .ok (.putfield 145, 3) := by decide +kernel
theorem dX6_begins_26 : decode cX6_begins 26 = .ok (.return_, 1) := by decide +kernel
theorem dX6_counts_0 : decode cX6_counts 0 = .ok (.aload_n 0, 1) := by decide +kernel
theorem dX6_counts_1 : decode cX6_counts 1 = .ok (.dup, 1) := by decide +kernel
theorem dX6_counts_2 : decode cX6_counts 2 = .ok (.getfield 148, 3) := by decide +kernel
theorem dX6_counts_5 : decode cX6_counts 5 = .ok (.iconst 1, 1) := by decide +kernel
theorem dX6_counts_6 : decode cX6_counts 6 = .ok (.iadd, 1) := by decide +kernel
theorem dX6_counts_7 : decode cX6_counts 7 = .ok (.putfield 148, 3) := by decide +kernel
theorem dX6_counts_10 : decode cX6_counts 10 = .ok (.aload_n 0, 1) := by decide +kernel
theorem dX6_counts_11 : decode cX6_counts 11 = .ok (.getfield 148, 3) := by decide +kernel
theorem dX6_counts_14 : decode cX6_counts 14 = .ok (.bipush 20, 2) := by decide +kernel
theorem dX6_counts_16 : decode cX6_counts 16 = .ok (.if_icmp .gt 7, 3) := by decide +kernel
theorem dX6_counts_19 : decode cX6_counts 19 = .ok (.iconst 1, 1) := by decide +kernel
theorem dX6_counts_20 : decode cX6_counts 20 = .ok (.goto 4, 3) := by decide +kernel
theorem dX6_counts_23 : decode cX6_counts 23 = .ok (.iconst 0, 1) := by decide +kernel
theorem dX6_counts_24 : decode cX6_counts 24 = .ok (.ireturn, 1) := by decide +kernel
theorem dX6_makes_0 : decode cX6_makes 0 = .ok (.aload_n 0, 1) := by decide +kernel
theorem dX6_makes_1 : decode cX6_makes 1 = .ok (.getfield 145, 3) := by decide +kernel
theorem dX6_makes_4 : decode cX6_makes 4 = .ok (.istore 5, 2) := by decide +kernel
theorem dX6_makes_6 : decode cX6_makes 6 = .ok (.bipush 20, 2) := by decide +kernel
theorem dX6_makes_8 : decode cX6_makes 8 = .ok (.iload 5, 2) := by decide +kernel
theorem dX6_makes_10 : decode cX6_makes 10 = .ok (.imul, 1) := by decide +kernel
theorem dX6_makes_11 : decode cX6_makes 11 = .ok (.aload_n 0, 1) := by decide +kernel
theorem dX6_makes_12 : decode cX6_makes 12 = .ok (.getfield 28, 3) := by decide +kernel
theorem dX6_makes_15 : decode cX6_makes 15 = .ok (.iload 5, 2) := by decide +kernel
theorem dX6_makes_17 : decode cX6_makes 17 = .ok (.iaload, 1) := by decide +kernel
theorem dX6_makes_18 : decode cX6_makes 18 = .ok (.iadd, 1) := by decide +kernel
theorem dX6_makes_19 : decode cX6_makes 19 = .ok (.istore 6, 2) := by decide +kernel
theorem dX6_makes_21 : decode cX6_makes 21 = .ok (.aload_n 0, 1) := by decide +kernel
theorem dX6_makes_22 : decode cX6_makes 22 = .ok (.getfield 31, 3) := by decide +kernel
theorem dX6_makes_25 : decode cX6_makes 25 = .ok (.iload 6, 2) := by decide +kernel
theorem dX6_makes_27 : decode cX6_makes 27 = .ok (.iload_n 1, 1) := by decide +kernel
theorem dX6_makes_28 : decode cX6_makes 28 = .ok (.iastore, 1) := by decide +kernel
theorem dX6_makes_29 : decode cX6_makes 29 = .ok (.aload_n 0, 1) := by decide +kernel
theorem dX6_makes_30 : decode cX6_makes 30 = .ok (.getfield 34, 3) := by decide +kernel
theorem dX6_makes_33 : decode cX6_makes 33 = .ok (.iload 6, 2) := by decide +kernel
theorem dX6_makes_35 : decode cX6_makes 35 = .ok (.iload_n 2, 1) := by decide +kernel
theorem dX6_makes_36 : decode cX6_makes 36 = .ok (.iastore, 1) := by decide +kernel
theorem dX6_makes_37 : decode cX6_makes 37 = .ok (.aload_n 0, 1) := by decide +kernel
theorem dX6_makes_38 : decode cX6_makes 38 = .ok (.getfield 37, 3) := by decide +kernel
theorem dX6_makes_41 : decode cX6_makes 41 = .ok (.iload 6, 2) := by decide +kernel
theorem dX6_makes_43 : decode cX6_makes 43 = .ok (.iload_n 3, 1) := by decide +kernel
theorem dX6_makes_44 : decode cX6_makes 44 = .ok (.iastore, 1) := by decide +kernel
theorem dX6_makes_45 : decode cX6_makes 45 = .ok (.aload_n 0, 1) := by decide +kernel
theorem dX6_makes_46 : decode cX6_makes 46 = .ok (.getfield 40, 3) := by decide +kernel
theorem dX6_makes_49 : decode cX6_makes 49 = .ok (.iload 6, 2) := by decide +kernel
theorem dX6_makes_51 : decode cX6_makes 51 = .ok (.iload 4, 2) := by decide +kernel
theorem dX6_makes_53 : decode cX6_makes 53 = .ok (.iastore, 1) := by decide +kernel
theorem dX6_makes_54 : decode cX6_makes 54 = .ok (.aload_n 0, 1) := by decide +kernel
theorem dX6_makes_55 : decode cX6_makes 55 = .ok (.getfield 66, 3) := by decide +kernel
theorem dX6_makes_58 : decode cX6_makes 58 = .ok (.aload_n 0, 1) := by decide +kernel
theorem dX6_makes_59 : decode cX6_makes 59 = .ok (.getfield 151, 3) := by decide +kernel
theorem dX6_makes_62 : decode cX6_makes 62 = .ok (.aload_n 0, 1) := by decide +kernel
theorem dX6_makes_63 : decode cX6_makes 63 = .ok (.getfield 28, 3) := by decide +kernel
theorem dX6_makes_66 : decode cX6_makes 66 = .ok (.iload 5, 2) := by decide +kernel
theorem dX6_makes_68 : decode cX6_makes 68 = .ok (.iaload, 1) := by decide +kernel
theorem dX6_makes_69 : decode cX6_makes 69 = .ok (.iastore, 1) := by decide +kernel
theorem dX6_makes_70 : decode cX6_makes 70 = .ok (.aload_n 0, 1) := by decide +kernel
theorem dX6_makes_71 : decode cX6_makes 71 = .ok (.dup, 1) := by decide +kernel
theorem dX6_makes_72 : decode cX6_makes 72 = .ok (.getfield 151, 3) := by decide +kernel
theorem dX6_makes_75 : decode cX6_makes 75 = .ok (.iconst 1, 1) := by decide +kernel
theorem dX6_makes_76 : decode cX6_makes 76 = .ok (.iadd, 1) := by decide +kernel
theorem dX6_makes_77 : decode cX6_makes 77 = .ok (.putfield 151, 3) := by decide +kernel
theorem dX6_makes_80 : decode cX6_makes 80 = .ok (.aload_n 0, 1) := by decide +kernel
theorem dX6_makes_81 : decode cX6_makes 81 = .ok (.getfield 28, 3) := by decide +kernel
theorem dX6_makes_84 : decode cX6_makes 84 = .ok (.iload 5, 2) := by decide +kernel
theorem dX6_makes_86 : decode cX6_makes 86 = .ok (.dup2, 1) := by decide +kernel
theorem dX6_makes_87 : decode cX6_makes 87 = .ok (.iaload, 1) := by decide +kernel
theorem dX6_makes_88 : decode cX6_makes 88 = .ok (.iconst 1, 1) := by decide +kernel
theorem dX6_makes_89 : decode cX6_makes 89 = .ok (.iadd, 1) := by decide +kernel
theorem dX6_makes_90 : decode cX6_makes 90 = .ok (.iastore, 1) := by decide +kernel
theorem dX6_makes_91 : decode cX6_makes 91 = .ok (.return_, 1) := by decide +kernel
theorem dX6_lastWaiting_0 : decode cX6_lastWaiting 0 = .ok (.aload_n 0, 1) := by decide +kernel
theorem dX6_lastWaiting_1 : decode cX6_lastWaiting 1 = .ok (.getfield 154, 3) := by decide +kernel
theorem dX6_lastWaiting_4 : decode cX6_lastWaiting 4 = .ok (.ifCond .ne 7, 3) := by decide +kernel
theorem dX6_lastWaiting_7 : decode cX6_lastWaiting 7 = .ok (.iconst 0, 1) := by decide +kernel
theorem dX6_lastWaiting_8 : decode cX6_lastWaiting 8 = .ok (.goto 14, 3) := by decide +kernel
theorem dX6_lastWaiting_11 : decode cX6_lastWaiting 11 = .ok (.aload_n 0, 1) := by decide +kernel
theorem dX6_lastWaiting_12 : decode cX6_lastWaiting 12 = .ok (.getfield 69, 3) := by decide +kernel
theorem dX6_lastWaiting_15 : decode cX6_lastWaiting 15 = .ok (.aload_n 0, 1) := by decide +kernel
theorem dX6_lastWaiting_16 : decode cX6_lastWaiting 16 = .ok (.getfield 154, 3) := by decide +kernel
theorem dX6_lastWaiting_19 : decode cX6_lastWaiting 19 = .ok (.iconst 1, 1) := by decide +kernel
theorem dX6_lastWaiting_20 : decode cX6_lastWaiting 20 = .ok (.isub, 1) := by decide +kernel
theorem dX6_lastWaiting_21 : decode cX6_lastWaiting 21 = .ok (.iaload, 1) := by decide +kernel
theorem dX6_lastWaiting_22 : decode cX6_lastWaiting 22 = .ok (.ireturn, 1) := by decide +kernel
theorem dX6_waits_0 : decode cX6_waits 0 = .ok (.aload_n 0, 1) := by decide +kernel
theorem dX6_waits_1 : decode cX6_waits 1 = .ok (.getfield 69, 3) := by decide +kernel
theorem dX6_waits_4 : decode cX6_waits 4 = .ok (.aload_n 0, 1) := by decide +kernel
theorem dX6_waits_5 : decode cX6_waits 5 = .ok (.getfield 154, 3) := by decide +kernel
theorem dX6_waits_8 : decode cX6_waits 8 = .ok (.iload_n 1, 1) := by decide +kernel
theorem dX6_waits_9 : decode cX6_waits 9 = .ok (.iastore, 1) := by decide +kernel
theorem dX6_waits_10 : decode cX6_waits 10 = .ok (.aload_n 0, 1) := by decide +kernel
theorem dX6_waits_11 : decode cX6_waits 11 = .ok (.dup, 1) := by decide +kernel
theorem dX6_waits_12 : decode cX6_waits 12 = .ok (.getfield 154, 3) := by decide +kernel
theorem dX6_waits_15 : decode cX6_waits 15 = .ok (.iconst 1, 1) := by decide +kernel
theorem dX6_waits_16 : decode cX6_waits 16 = .ok (.iadd, 1) := by decide +kernel
theorem dX6_waits_17 : decode cX6_waits 17 = .ok (.putfield 154, 3) := by decide +kernel
theorem dX6_waits_20 : decode cX6_waits 20 = .ok (.return_, 1) := by decide +kernel
theorem dX6_doesLast_0 : decode cX6_doesLast 0 = .ok (.aload_n 0, 1) := by decide +kernel
theorem dX6_doesLast_1 : decode cX6_doesLast 1 = .ok (.dup, 1) := by decide +kernel
theorem dX6_doesLast_2 : decode cX6_doesLast 2 = .ok (.getfield 154, 3) := by decide +kernel
theorem dX6_doesLast_5 : decode cX6_doesLast 5 = .ok (.iconst 1, 1) := by decide +kernel
theorem dX6_doesLast_6 : decode cX6_doesLast 6 = .ok (.isub, 1) := by decide +kernel
theorem dX6_doesLast_7 : decode cX6_doesLast 7 = .ok (.putfield 154, 3) := by decide +kernel
theorem dX6_doesLast_10 : decode cX6_doesLast 10 = .ok (.aload_n 0, 1) := by decide +kernel
theorem dX6_doesLast_11 : decode cX6_doesLast 11 = .ok (.getfield 69, 3) := by decide +kernel
theorem dX6_doesLast_14 : decode cX6_doesLast 14 = .ok (.aload_n 0, 1) := by decide +kernel
theorem dX6_doesLast_15 : decode cX6_doesLast 15 = .ok (.getfield 154, 3) := by decide +kernel
theorem dX6_doesLast_18 : decode cX6_doesLast 18 = .ok (.iaload, 1) := by decide +kernel
theorem dX6_doesLast_19 : decode cX6_doesLast 19 = .ok (.istore_n 1, 1) := by decide +kernel
theorem dX6_doesLast_20 : decode cX6_doesLast 20 = .ok (.aload_n 0, 1) := by decide +kernel
theorem dX6_doesLast_21 : decode cX6_doesLast 21 = .ok (.dup, 1) := by decide +kernel
theorem dX6_doesLast_22 : decode cX6_doesLast 22 = .ok (.getfield 151, 3) := by decide +kernel
theorem dX6_doesLast_25 : decode cX6_doesLast 25 = .ok (.iload_n 1, 1) := by decide +kernel
theorem dX6_doesLast_26 : decode cX6_doesLast 26 = .ok (.bipush 110, 2) := by decide +kernel
theorem dX6_doesLast_28 : decode cX6_doesLast 28 = .ok (.if_icmp .ne 7, 3) := by decide +kernel
theorem dX6_doesLast_31 : decode cX6_doesLast 31 = .ok (.iconst 1, 1) := by decide +kernel
theorem dX6_doesLast_32 : decode cX6_doesLast 32 = .ok (.goto 4, 3) := by decide +kernel
theorem dX6_doesLast_35 : decode cX6_doesLast 35 = .ok (.iconst 2, 1) := by decide +kernel
theorem dX6_doesLast_36 : decode cX6_doesLast 36 = .ok (.isub, 1) := by decide +kernel
theorem dX6_doesLast_37 : decode cX6_doesLast 37 = .ok (.putfield 151, 3) := by decide +kernel
theorem dX6_doesLast_40 : decode cX6_doesLast 40 = .ok (.aload_n 0, 1) := by decide +kernel
theorem dX6_doesLast_41 : decode cX6_doesLast 41 = .ok (.iload_n 1, 1) := by decide +kernel
theorem dX6_doesLast_42 : decode cX6_doesLast 42 = .ok (.iconst 0, 1) := by decide +kernel
theorem dX6_doesLast_43 : decode cX6_doesLast 43 = .ok (.aload_n 0, 1) := by decide +kernel
theorem dX6_doesLast_44 : decode cX6_doesLast 44 = .ok (.getfield 66, 3) := by decide +kernel
theorem dX6_doesLast_47 : decode cX6_doesLast 47 = .ok (.aload_n 0, 1) := by decide +kernel
theorem dX6_doesLast_48 : decode cX6_doesLast 48 = .ok (.getfield 151, 3) := by decide +kernel
theorem dX6_doesLast_51 : decode cX6_doesLast 51 = .ok (.iaload, 1) := by decide +kernel
theorem dX6_doesLast_52 : decode cX6_doesLast 52 = .ok (.iload_n 1, 1) := by decide +kernel
theorem dX6_doesLast_53 : decode cX6_doesLast 53 = .ok (.bipush 110, 2) := by decide +kernel
theorem dX6_doesLast_55 : decode cX6_doesLast 55 = .ok (.if_icmp .ne 8, 3) := by decide +kernel
theorem dX6_doesLast_58 : decode cX6_doesLast 58 = .ok (.bipush (-9), 2) := by decide +kernel
theorem dX6_doesLast_60 : decode cX6_doesLast 60 = .ok (.goto 14, 3) := by decide +kernel
theorem dX6_doesLast_63 : decode cX6_doesLast 63 = .ok (.aload_n 0, 1) := by decide +kernel
theorem dX6_doesLast_64 : decode cX6_doesLast 64 = .ok (.getfield 66, 3) := by decide +kernel
theorem dX6_doesLast_67 : decode cX6_doesLast 67 = .ok (.aload_n 0, 1) := by decide +kernel
theorem dX6_doesLast_68 : decode cX6_doesLast 68 = .ok (.getfield 151, 3) := by decide +kernel
theorem dX6_doesLast_71 : decode cX6_doesLast 71 = .ok (.iconst 1, 1) := by decide +kernel
theorem dX6_doesLast_72 : decode cX6_doesLast 72 = .ok (.iadd, 1) := by decide +kernel
theorem dX6_doesLast_73 : decode cX6_doesLast 73 = .ok (.iaload, 1) := by decide +kernel
theorem dX6_doesLast_74 : decode cX6_doesLast 74 = .ok (.invokevirtual 157, 3) := by decide +kernel
theorem dX6_doesLast_77 : decode cX6_doesLast 77 = .ok (.return_, 1) := by decide +kernel
theorem dX6_partDone_0 : decode cX6_partDone 0 = .ok (.aload_n 0, 1) := by decide +kernel
theorem dX6_partDone_1 : decode cX6_partDone 1 = .ok (.invokevirtual 161, 3) := by decide +kernel
theorem dX6_partDone_4 : decode cX6_partDone 4 = .ok (.bipush 110, 2) := by decide +kernel
theorem dX6_partDone_6 : decode cX6_partDone 6 = .ok (.if_icmp .ne 10, 3) := by decide +kernel
theorem dX6_partDone_9 : decode cX6_partDone 9 = .ok (.aload_n 0, 1) := by decide +kernel
theorem dX6_partDone_10 : decode cX6_partDone 10 = .ok (.invokevirtual 165, 3) := by decide +kernel
theorem dX6_partDone_13 : decode cX6_partDone 13 = .ok (.goto (-13), 3) := by decide +kernel
theorem dX6_partDone_16 : decode cX6_partDone 16 = .ok (.aload_n 0, 1) := by decide +kernel
theorem dX6_partDone_17 : decode cX6_partDone 17 = .ok (.bipush 94, 2) := by decide +kernel
theorem dX6_partDone_19 : decode cX6_partDone 19 = .ok (.invokevirtual 134, 3) := by decide +kernel
theorem dX6_partDone_22 : decode cX6_partDone 22 = .ok (.ifCond .eq 58, 3) := by decide +kernel
theorem dX6_partDone_25 : decode cX6_partDone 25 = .ok (.aload_n 0, 1) := by decide +kernel
theorem dX6_partDone_26 : decode cX6_partDone 26 = .ok (.aload_n 0, 1) := by decide +kernel
theorem dX6_partDone_27 : decode cX6_partDone 27 = .ok (.invokevirtual 168, 3) := by decide +kernel
theorem dX6_partDone_30 : decode cX6_partDone 30 = .ok (.invokevirtual 137, 3) := by decide +kernel
theorem dX6_partDone_33 : decode cX6_partDone 33 = .ok (.pop, 1) := by decide +kernel
theorem dX6_partDone_34 : decode cX6_partDone 34 = .ok (.aload_n 0, 1) := by decide +kernel
theorem dX6_partDone_35 : decode cX6_partDone 35 = .ok (.aload_n 0, 1) := by decide +kernel
theorem dX6_partDone_36 : decode cX6_partDone 36 = .ok (.iconst 0, 1) := by decide +kernel
theorem dX6_partDone_37 : decode cX6_partDone 37 = .ok (.iconst 4, 1) := by decide +kernel
theorem dX6_partDone_38 : decode cX6_partDone 38 = .ok (.invokevirtual 141, 3) := by decide +kernel
theorem dX6_partDone_41 : decode cX6_partDone 41 = .ok (.invokevirtual 137, 3) := by decide +kernel
theorem dX6_partDone_44 : decode cX6_partDone 44 = .ok (.istore_n 1, 1) := by decide +kernel
theorem dX6_partDone_45 : decode cX6_partDone 45 = .ok (.aload_n 0, 1) := by decide +kernel
theorem dX6_partDone_46 : decode cX6_partDone 46 = .ok (.invokevirtual 127, 3) := by decide +kernel
theorem dX6_partDone_49 : decode cX6_partDone 49 = .ok (.ifCond .eq 31, 3) := by decide +kernel
theorem dX6_partDone_52 : decode cX6_partDone 52 = .ok (.aload_n 0, 1) := by decide +kernel
theorem dX6_partDone_53 : decode cX6_partDone 53 = .ok (.dup, 1) := by decide +kernel
theorem dX6_partDone_54 : decode cX6_partDone 54 = .ok (.getfield 151, 3) := by decide +kernel
theorem dX6_partDone_57 : decode cX6_partDone 57 = .ok (.iconst 1, 1) := by decide +kernel
theorem dX6_partDone_58 : decode cX6_partDone 58 = .ok (.isub, 1) := by decide +kernel
theorem dX6_partDone_59 : decode cX6_partDone 59 = .ok (.putfield 151, 3) := by decide +kernel
theorem dX6_partDone_62 : decode cX6_partDone 62 = .ok (.aload_n 0, 1) := by decide +kernel
theorem dX6_partDone_63 : decode cX6_partDone 63 = .ok (.bipush 94, 2) := by decide +kernel
theorem dX6_partDone_65 : decode cX6_partDone 65 = .ok (.iload_n 1, 1) := by decide +kernel
theorem dX6_partDone_66 : decode cX6_partDone 66 = .ok (.aload_n 0, 1) := by decide +kernel
theorem dX6_partDone_67 : decode cX6_partDone 67 = .ok (.getfield 66, 3) := by decide +kernel
theorem dX6_partDone_70 : decode cX6_partDone 70 = .ok (.aload_n 0, 1) := by decide +kernel
theorem dX6_partDone_71 : decode cX6_partDone 71 = .ok (.getfield 151, 3) := by decide +kernel
theorem dX6_partDone_74 : decode cX6_partDone 74 = .ok (.iaload, 1) := by decide +kernel
theorem dX6_partDone_75 : decode cX6_partDone 75 = .ok (.bipush (-9), 2) := by decide +kernel
theorem dX6_partDone_77 : decode cX6_partDone 77 = .ok (.invokevirtual 157, 3) := by decide +kernel
theorem dX6_partDone_80 : decode cX6_partDone 80 = .ok (.aload_n 0, 1) := by decide +kernel
theorem dX6_partDone_81 : decode cX6_partDone 81 = .ok (.invokevirtual 127, 3) := by decide +kernel
theorem dX6_partDone_84 : decode cX6_partDone 84 = .ok (.ifCond .eq 19, 3) := by decide +kernel
theorem dX6_partDone_87 : decode cX6_partDone 87 = .ok (.aload_n 0, 1) := by decide +kernel
theorem dX6_partDone_88 : decode cX6_partDone 88 = .ok (.invokevirtual 161, 3) := by decide +kernel
theorem dX6_partDone_91 : decode cX6_partDone 91 = .ok (.bipush 42, 2) := by decide +kernel
theorem dX6_partDone_93 : decode cX6_partDone 93 = .ok (.if_icmp .ne 10, 3) := by decide +kernel
theorem dX6_partDone_96 : decode cX6_partDone 96 = .ok (.aload_n 0, 1) := by decide +kernel
theorem dX6_partDone_97 : decode cX6_partDone 97 = .ok (.invokevirtual 165, 3) := by decide +kernel
theorem dX6_partDone_100 : decode cX6_partDone 100 = .ok (.goto (-20), 3) := by decide +kernel
theorem dX6_partDone_103 : decode cX6_partDone 103 = .ok (.return_, 1) := by decide +kernel
theorem dX6_readsPart_0 : decode cX6_readsPart 0 = .ok (.aload_n 0, 1) := by decide +kernel
theorem dX6_readsPart_1 : decode cX6_readsPart 1 = .ok (.bipush 40, 2) := by decide +kernel
theorem dX6_readsPart_3 : decode cX6_readsPart 3 = .ok (.invokevirtual 134, 3) := by decide +kernel
theorem dX6_readsPart_6 : decode cX6_readsPart 6 = .ok (.ifCond .eq 39, 3) := by decide +kernel
theorem dX6_readsPart_9 : decode cX6_readsPart 9 = .ok (.aload_n 0, 1) := by decide +kernel
theorem dX6_readsPart_10 : decode cX6_readsPart 10 = .ok (.aload_n 0, 1) := by decide +kernel
theorem dX6_readsPart_11 : decode cX6_readsPart 11 = .ok (.getfield 171, 3) := by decide +kernel
theorem dX6_readsPart_14 : decode cX6_readsPart 14 = .ok (.bipush 8, 2) := by decide +kernel
theorem dX6_readsPart_16 : decode cX6_readsPart 16 = .ok (.if_icmp .ge 7, 3) := by decide +kernel
theorem dX6_readsPart_19 : decode cX6_readsPart 19 = .ok (.iconst 1, 1) := by decide +kernel
theorem dX6_readsPart_20 : decode cX6_readsPart 20 = .ok (.goto 4, 3) := by decide +kernel
theorem dX6_readsPart_23 : decode cX6_readsPart 23 = .ok (.iconst 0, 1) := by decide +kernel
theorem dX6_readsPart_24 : decode cX6_readsPart 24 = .ok (.invokevirtual 137, 3) := by decide +kernel
theorem dX6_readsPart_27 : decode cX6_readsPart 27 = .ok (.pop, 1) := by decide +kernel
theorem dX6_readsPart_28 : decode cX6_readsPart 28 = .ok (.aload_n 0, 1) := by decide +kernel
theorem dX6_readsPart_29 : decode cX6_readsPart 29 = .ok (.dup, 1) := by decide +kernel
theorem dX6_readsPart_30 : decode cX6_readsPart 30 = .ok (.getfield 171, 3) := by decide +kernel
theorem dX6_readsPart_33 : decode cX6_readsPart 33 = .ok (.iconst 1, 1) := by decide +kernel
theorem dX6_readsPart_34 : decode cX6_readsPart 34 = .ok (.iadd, 1) := by decide +kernel
theorem dX6_readsPart_35 : decode cX6_readsPart 35 = .ok (.putfield 171, 3) := by decide +kernel
theorem dX6_readsPart_38 : decode cX6_readsPart 38 = .ok (.aload_n 0, 1) := by decide +kernel
theorem dX6_readsPart_39 : decode cX6_readsPart 39 = .ok (.iconst 0, 1) := by decide +kernel
theorem dX6_readsPart_40 : decode cX6_readsPart 40 = .ok (.invokevirtual 174, 3) := by decide +kernel
theorem dX6_readsPart_43 : decode cX6_readsPart 43 = .ok (.iconst 0, 1) := by decide +kernel
theorem dX6_readsPart_44 : decode cX6_readsPart 44 = .ok (.ireturn, 1) := by decide +kernel
theorem dX6_readsPart_45 : decode cX6_readsPart 45 = .ok (.aload_n 0, 1) := by decide +kernel
theorem dX6_readsPart_46 : decode cX6_readsPart 46 = .ok (.bipush 45, 2) := by decide +kernel
theorem dX6_readsPart_48 : decode cX6_readsPart 48 = .ok (.invokevirtual 134, 3) := by decide +kernel
theorem dX6_readsPart_51 : decode cX6_readsPart 51 = .ok (.ifCond .eq 20, 3) := by decide +kernel
theorem dX6_readsPart_54 : decode cX6_readsPart 54 = .ok (.aload_n 0, 1) := by decide +kernel
theorem dX6_readsPart_55 : decode cX6_readsPart 55 = .ok (.aload_n 0, 1) := by decide +kernel
theorem dX6_readsPart_56 : decode cX6_readsPart 56 = .ok (.invokevirtual 168, 3) := by decide +kernel
theorem dX6_readsPart_59 : decode cX6_readsPart 59 = .ok (.invokevirtual 137, 3) := by decide +kernel
theorem dX6_readsPart_62 : decode cX6_readsPart 62 = .ok (.pop, 1) := by decide +kernel
theorem dX6_readsPart_63 : decode cX6_readsPart 63 = .ok (.aload_n 0, 1) := by decide +kernel
theorem dX6_readsPart_64 : decode cX6_readsPart 64 = .ok (.bipush 110, 2) := by decide +kernel
theorem dX6_readsPart_66 : decode cX6_readsPart 66 = .ok (.invokevirtual 174, 3) := by decide +kernel
theorem dX6_readsPart_69 : decode cX6_readsPart 69 = .ok (.iconst 0, 1) := by decide +kernel
theorem dX6_readsPart_70 : decode cX6_readsPart 70 = .ok (.ireturn, 1) := by decide +kernel
theorem dX6_readsPart_71 : decode cX6_readsPart 71 = .ok (.aload_n 0, 1) := by decide +kernel
theorem dX6_readsPart_72 : decode cX6_readsPart 72 = .ok (.bipush 64, 2) := by decide +kernel
theorem dX6_readsPart_74 : decode cX6_readsPart 74 = .ok (.invokevirtual 134, 3) := by decide +kernel
theorem dX6_readsPart_77 : decode cX6_readsPart 77 = .ok (.ifCond .eq 48, 3) := by decide +kernel
theorem dX6_readsPart_80 : decode cX6_readsPart 80 = .ok (.aload_n 0, 1) := by decide +kernel
theorem dX6_readsPart_81 : decode cX6_readsPart 81 = .ok (.aload_n 0, 1) := by decide +kernel
theorem dX6_readsPart_82 : decode cX6_readsPart 82 = .ok (.invokevirtual 168, 3) := by decide +kernel
theorem dX6_readsPart_85 : decode cX6_readsPart 85 = .ok (.invokevirtual 137, 3) := by decide +kernel
theorem dX6_readsPart_88 : decode cX6_readsPart 88 = .ok (.pop, 1) := by decide +kernel
theorem dX6_readsPart_89 : decode cX6_readsPart 89 = .ok (.aload_n 0, 1) := by decide +kernel
theorem dX6_readsPart_90 : decode cX6_readsPart 90 = .ok (.aload_n 0, 1) := by decide +kernel
theorem dX6_readsPart_91 : decode cX6_readsPart 91 = .ok (.iconst 0, 1) := by decide +kernel
theorem dX6_readsPart_92 : decode cX6_readsPart 92 = .ok (.aload_n 0, 1) := by decide +kernel
theorem dX6_readsPart_93 : decode cX6_readsPart 93 = .ok (.getfield 145, 3) := by decide +kernel
theorem dX6_readsPart_96 : decode cX6_readsPart 96 = .ok (.iconst 1, 1) := by decide +kernel
theorem dX6_readsPart_97 : decode cX6_readsPart 97 = .ok (.isub, 1) := by decide +kernel
theorem dX6_readsPart_98 : decode cX6_readsPart 98 = .ok (.invokevirtual 141, 3) := by decide +kernel
theorem dX6_readsPart_101 : decode cX6_readsPart 101 = .ok (.invokevirtual 137, 3) := by decide +kernel
theorem dX6_readsPart_104 : decode cX6_readsPart 104 = .ok (.istore_n 1, 1) := by decide +kernel
theorem dX6_readsPart_105 : decode cX6_readsPart 105 = .ok (.aload_n 0, 1) := by decide +kernel
theorem dX6_readsPart_106 : decode cX6_readsPart 106 = .ok (.invokevirtual 127, 3) := by decide +kernel
theorem dX6_readsPart_109 : decode cX6_readsPart 109 = .ok (.ifCond .eq 13, 3) := by decide +kernel
theorem dX6_readsPart_112 : decode cX6_readsPart 112 = .ok (.aload_n 0, 1) := by decide +kernel
theorem dX6_readsPart_113 : decode cX6_readsPart 113 = .ok (.iconst 2, 1) := by decide +kernel
theorem dX6_readsPart_114 : decode cX6_readsPart 114 = .ok (.iload_n 1, 1) := by decide +kernel
theorem dX6_readsPart_115 : decode cX6_readsPart 115 = .ok (.bipush (-9), 2) := by decide +kernel
theorem dX6_readsPart_117 : decode cX6_readsPart 117 = .ok (.bipush (-9), 2) := by decide +kernel
theorem dX6_readsPart_119 : decode cX6_readsPart 119 = .ok (.invokevirtual 157, 3) := by decide +kernel
theorem dX6_readsPart_122 : decode cX6_readsPart 122 = .ok (.goto 86, 3) := by decide +kernel
theorem dX6_readsPart_125 : decode cX6_readsPart 125 = .ok (.aload_n 0, 1) := by decide +kernel
theorem dX6_readsPart_126 : decode cX6_readsPart 126 = .ok (.invokevirtual 178, 3) := by decide +kernel
theorem dX6_readsPart_129 : decode cX6_readsPart 129 = .ok (.ifCond .eq 35, 3) := by decide +kernel
theorem dX6_readsPart_132 : decode cX6_readsPart 132 = .ok (.aload_n 0, 1) := by decide +kernel
theorem dX6_readsPart_133 : decode cX6_readsPart 133 = .ok (.aload_n 0, 1) := by decide +kernel
theorem dX6_readsPart_134 : decode cX6_readsPart 134 = .ok (.invokevirtual 168, 3) := by decide +kernel
theorem dX6_readsPart_137 : decode cX6_readsPart 137 = .ok (.invokevirtual 137, 3) := by decide +kernel
theorem dX6_readsPart_140 : decode cX6_readsPart 140 = .ok (.istore_n 1, 1) := by decide +kernel
theorem dX6_readsPart_141 : decode cX6_readsPart 141 = .ok (.aload_n 0, 1) := by decide +kernel
theorem dX6_readsPart_142 : decode cX6_readsPart 142 = .ok (.invokevirtual 127, 3) := by decide +kernel
theorem dX6_readsPart_145 : decode cX6_readsPart 145 = .ok (.ifCond .eq 16, 3) := by decide +kernel
theorem dX6_readsPart_148 : decode cX6_readsPart 148 = .ok (.aload_n 0, 1) := by decide +kernel
theorem dX6_readsPart_149 : decode cX6_readsPart 149 = .ok (.iconst 1, 1) := by decide +kernel
theorem dX6_readsPart_150 : decode cX6_readsPart 150 = .ok (.iload_n 1, 1) := by decide +kernel
theorem dX6_readsPart_151 : decode cX6_readsPart 151 = .ok (.bipush 97, 2) := by decide +kernel
theorem dX6_readsPart_153 : decode cX6_readsPart 153 = .ok (.isub, 1) := by decide +kernel
theorem dX6_readsPart_154 : decode cX6_readsPart 154 = .ok (.bipush (-9), 2) := by decide +kernel
theorem dX6_readsPart_156 : decode cX6_readsPart 156 = .ok (.bipush (-9), 2) := by decide +kernel
theorem dX6_readsPart_158 : decode cX6_readsPart 158 = .ok (.invokevirtual 157, 3) := by decide +kernel
theorem dX6_readsPart_161 : decode cX6_readsPart 161 = .ok (.goto 47, 3) := by decide +kernel
theorem dX6_readsPart_164 : decode cX6_readsPart 164 = .ok (.aload_n 0, 1) := by decide +kernel
theorem dX6_readsPart_165 : decode cX6_readsPart 165 = .ok (.aload_n 0, 1) := by decide +kernel
theorem dX6_readsPart_166 : decode cX6_readsPart 166 = .ok (.iconst 0, 1) := by decide +kernel
theorem dX6_readsPart_167 : decode cX6_readsPart 167 = .ok (.bipush 99, 2) := by decide +kernel
theorem dX6_readsPart_169 : decode cX6_readsPart 169 = .ok (.invokevirtual 141, 3) := by decide +kernel
theorem dX6_readsPart_172 : decode cX6_readsPart 172 = .ok (.ifCond .eq 14, 3) := by decide +kernel
theorem dX6_readsPart_175 : decode cX6_readsPart 175 = .ok (.aload_n 0, 1) := by decide +kernel
theorem dX6_readsPart_176 : decode cX6_readsPart 176 = .ok (.invokevirtual 168, 3) := by decide +kernel
theorem dX6_readsPart_179 : decode cX6_readsPart 179 = .ok (.ifCond .eq 7, 3) := by decide +kernel
theorem dX6_readsPart_182 : decode cX6_readsPart 182 = .ok (.iconst 1, 1) := by decide +kernel
theorem dX6_readsPart_183 : decode cX6_readsPart 183 = .ok (.goto 4, 3) := by decide +kernel
theorem dX6_readsPart_186 : decode cX6_readsPart 186 = .ok (.iconst 0, 1) := by decide +kernel
theorem dX6_readsPart_187 : decode cX6_readsPart 187 = .ok (.invokevirtual 137, 3) := by decide +kernel
theorem dX6_readsPart_190 : decode cX6_readsPart 190 = .ok (.istore_n 1, 1) := by decide +kernel
theorem dX6_readsPart_191 : decode cX6_readsPart 191 = .ok (.aload_n 0, 1) := by decide +kernel
theorem dX6_readsPart_192 : decode cX6_readsPart 192 = .ok (.invokevirtual 127, 3) := by decide +kernel
theorem dX6_readsPart_195 : decode cX6_readsPart 195 = .ok (.ifCond .eq 13, 3) := by decide +kernel
theorem dX6_readsPart_198 : decode cX6_readsPart 198 = .ok (.aload_n 0, 1) := by decide +kernel
theorem dX6_readsPart_199 : decode cX6_readsPart 199 = .ok (.iconst 0, 1) := by decide +kernel
theorem dX6_readsPart_200 : decode cX6_readsPart 200 = .ok (.iload_n 1, 1) := by decide +kernel
theorem dX6_readsPart_201 : decode cX6_readsPart 201 = .ok (.bipush (-9), 2) := by decide +kernel
theorem dX6_readsPart_203 : decode cX6_readsPart 203 = .ok (.bipush (-9), 2) := by decide +kernel
theorem dX6_readsPart_205 : decode cX6_readsPart 205 = .ok (.invokevirtual 157, 3) := by decide +kernel
theorem dX6_readsPart_208 : decode cX6_readsPart 208 = .ok (.iconst 1, 1) := by decide +kernel
theorem dX6_readsPart_209 : decode cX6_readsPart 209 = .ok (.ireturn, 1) := by decide +kernel
theorem dX6_readsBehind_0 : decode cX6_readsBehind 0 = .ok (.aload_n 0, 1) := by decide +kernel
theorem dX6_readsBehind_1 : decode cX6_readsBehind 1 = .ok (.bipush 42, 2) := by decide +kernel
theorem dX6_readsBehind_3 : decode cX6_readsBehind 3 = .ok (.invokevirtual 134, 3) := by decide +kernel
theorem dX6_readsBehind_6 : decode cX6_readsBehind 6 = .ok (.ifCond .eq 20, 3) := by decide +kernel
theorem dX6_readsBehind_9 : decode cX6_readsBehind 9 = .ok (.aload_n 0, 1) := by decide +kernel
theorem dX6_readsBehind_10 : decode cX6_readsBehind 10 = .ok (.aload_n 0, 1) := by decide +kernel
theorem dX6_readsBehind_11 : decode cX6_readsBehind 11 = .ok (.invokevirtual 168, 3) := by decide +kernel
theorem dX6_readsBehind_14 : decode cX6_readsBehind 14 = .ok (.invokevirtual 137, 3) := by decide +kernel
theorem dX6_readsBehind_17 : decode cX6_readsBehind 17 = .ok (.pop, 1) := by decide +kernel
theorem dX6_readsBehind_18 : decode cX6_readsBehind 18 = .ok (.aload_n 0, 1) := by decide +kernel
theorem dX6_readsBehind_19 : decode cX6_readsBehind 19 = .ok (.bipush 42, 2) := by decide +kernel
theorem dX6_readsBehind_21 : decode cX6_readsBehind 21 = .ok (.invokevirtual 174, 3) := by decide +kernel
theorem dX6_readsBehind_24 : decode cX6_readsBehind 24 = .ok (.iconst 1, 1) := by decide +kernel
theorem dX6_readsBehind_25 : decode cX6_readsBehind 25 = .ok (.ireturn, 1) := by decide +kernel
theorem dX6_readsBehind_26 : decode cX6_readsBehind 26 = .ok (.aload_n 0, 1) := by decide +kernel
theorem dX6_readsBehind_27 : decode cX6_readsBehind 27 = .ok (.invokevirtual 161, 3) := by decide +kernel
theorem dX6_readsBehind_30 : decode cX6_readsBehind 30 = .ok (.bipush 43, 2) := by decide +kernel
theorem dX6_readsBehind_32 : decode cX6_readsBehind 32 = .ok (.if_icmp .eq 12, 3) := by decide +kernel
theorem dX6_readsBehind_35 : decode cX6_readsBehind 35 = .ok (.aload_n 0, 1) := by decide +kernel
theorem dX6_readsBehind_36 : decode cX6_readsBehind 36 = .ok (.invokevirtual 161, 3) := by decide +kernel
theorem dX6_readsBehind_39 : decode cX6_readsBehind 39 = .ok (.bipush 45, 2) := by decide +kernel
theorem dX6_readsBehind_41 : decode cX6_readsBehind 41 = .ok (.if_icmp .ne 10, 3) := by decide +kernel
theorem dX6_readsBehind_44 : decode cX6_readsBehind 44 = .ok (.aload_n 0, 1) := by decide +kernel
theorem dX6_readsBehind_45 : decode cX6_readsBehind 45 = .ok (.invokevirtual 165, 3) := by decide +kernel
theorem dX6_readsBehind_48 : decode cX6_readsBehind 48 = .ok (.goto (-22), 3) := by decide +kernel
theorem dX6_readsBehind_51 : decode cX6_readsBehind 51 = .ok (.aload_n 0, 1) := by decide +kernel
theorem dX6_readsBehind_52 : decode cX6_readsBehind 52 = .ok (.bipush 43, 2) := by decide +kernel
theorem dX6_readsBehind_54 : decode cX6_readsBehind 54 = .ok (.invokevirtual 134, 3) := by decide +kernel
theorem dX6_readsBehind_57 : decode cX6_readsBehind 57 = .ok (.ifCond .ne 12, 3) := by decide +kernel
theorem dX6_readsBehind_60 : decode cX6_readsBehind 60 = .ok (.aload_n 0, 1) := by decide +kernel
theorem dX6_readsBehind_61 : decode cX6_readsBehind 61 = .ok (.bipush 45, 2) := by decide +kernel
theorem dX6_readsBehind_63 : decode cX6_readsBehind 63 = .ok (.invokevirtual 134, 3) := by decide +kernel
theorem dX6_readsBehind_66 : decode cX6_readsBehind 66 = .ok (.ifCond .eq 17, 3) := by decide +kernel
theorem dX6_readsBehind_69 : decode cX6_readsBehind 69 = .ok (.aload_n 0, 1) := by decide +kernel
theorem dX6_readsBehind_70 : decode cX6_readsBehind 70 = .ok (.aload_n 0, 1) := by decide +kernel
theorem dX6_readsBehind_71 : decode cX6_readsBehind 71 = .ok (.aload_n 0, 1) := by decide +kernel
theorem dX6_readsBehind_72 : decode cX6_readsBehind 72 = .ok (.invokevirtual 168, 3) := by decide +kernel
theorem dX6_readsBehind_75 : decode cX6_readsBehind 75 = .ok (.invokevirtual 137, 3) := by decide +kernel
theorem dX6_readsBehind_78 : decode cX6_readsBehind 78 = .ok (.invokevirtual 174, 3) := by decide +kernel
theorem dX6_readsBehind_81 : decode cX6_readsBehind 81 = .ok (.iconst 1, 1) := by decide +kernel
theorem dX6_readsBehind_82 : decode cX6_readsBehind 82 = .ok (.ireturn, 1) := by decide +kernel
theorem dX6_readsBehind_83 : decode cX6_readsBehind 83 = .ok (.aload_n 0, 1) := by decide +kernel
theorem dX6_readsBehind_84 : decode cX6_readsBehind 84 = .ok (.bipush 41, 2) := by decide +kernel
theorem dX6_readsBehind_86 : decode cX6_readsBehind 86 = .ok (.invokevirtual 134, 3) := by decide +kernel
theorem dX6_readsBehind_89 : decode cX6_readsBehind 89 = .ok (.ifCond .eq 43, 3) := by decide +kernel
theorem dX6_readsBehind_92 : decode cX6_readsBehind 92 = .ok (.aload_n 0, 1) := by decide +kernel
theorem dX6_readsBehind_93 : decode cX6_readsBehind 93 = .ok (.getfield 154, 3) := by decide +kernel
theorem dX6_readsBehind_96 : decode cX6_readsBehind 96 = .ok (.ifCond .le 36, 3) := by decide +kernel
theorem dX6_readsBehind_99 : decode cX6_readsBehind 99 = .ok (.aload_n 0, 1) := by decide +kernel
theorem dX6_readsBehind_100 : decode cX6_readsBehind 100 = .ok (.iconst 1, 1) := by decide +kernel
theorem dX6_readsBehind_101 : decode cX6_readsBehind 101 = .ok (.invokevirtual 137, 3) := by decide +kernel
theorem dX6_readsBehind_104 : decode cX6_readsBehind 104 = .ok (.pop, 1) := by decide +kernel
theorem dX6_readsBehind_105 : decode cX6_readsBehind 105 = .ok (.aload_n 0, 1) := by decide +kernel
theorem dX6_readsBehind_106 : decode cX6_readsBehind 106 = .ok (.dup, 1) := by decide +kernel
theorem dX6_readsBehind_107 : decode cX6_readsBehind 107 = .ok (.getfield 171, 3) := by decide +kernel
theorem dX6_readsBehind_110 : decode cX6_readsBehind 110 = .ok (.iconst 1, 1) := by decide +kernel
theorem dX6_readsBehind_111 : decode cX6_readsBehind 111 = .ok (.isub, 1) := by decide +kernel
theorem dX6_readsBehind_112 : decode cX6_readsBehind 112 = .ok (.putfield 171, 3) := by decide +kernel
theorem dX6_readsBehind_115 : decode cX6_readsBehind 115 = .ok (.aload_n 0, 1) := by decide +kernel
theorem dX6_readsBehind_116 : decode cX6_readsBehind 116 = .ok (.dup, 1) := by decide +kernel
theorem dX6_readsBehind_117 : decode cX6_readsBehind 117 = .ok (.getfield 154, 3) := by decide +kernel
theorem dX6_readsBehind_120 : decode cX6_readsBehind 120 = .ok (.iconst 1, 1) := by decide +kernel
theorem dX6_readsBehind_121 : decode cX6_readsBehind 121 = .ok (.isub, 1) := by decide +kernel
theorem dX6_readsBehind_122 : decode cX6_readsBehind 122 = .ok (.putfield 154, 3) := by decide +kernel
theorem dX6_readsBehind_125 : decode cX6_readsBehind 125 = .ok (.aload_n 0, 1) := by decide +kernel
theorem dX6_readsBehind_126 : decode cX6_readsBehind 126 = .ok (.invokevirtual 181, 3) := by decide +kernel
theorem dX6_readsBehind_129 : decode cX6_readsBehind 129 = .ok (.goto 16, 3) := by decide +kernel
theorem dX6_readsBehind_132 : decode cX6_readsBehind 132 = .ok (.aload_n 0, 1) := by decide +kernel
theorem dX6_readsBehind_133 : decode cX6_readsBehind 133 = .ok (.getfield 154, 3) := by decide +kernel
theorem dX6_readsBehind_136 : decode cX6_readsBehind 136 = .ok (.ifCond .le 9, 3) := by decide +kernel
theorem dX6_readsBehind_139 : decode cX6_readsBehind 139 = .ok (.aload_n 0, 1) := by decide +kernel
theorem dX6_readsBehind_140 : decode cX6_readsBehind 140 = .ok (.iconst 0, 1) := by decide +kernel
theorem dX6_readsBehind_141 : decode cX6_readsBehind 141 = .ok (.invokevirtual 137, 3) := by decide +kernel
theorem dX6_readsBehind_144 : decode cX6_readsBehind 144 = .ok (.pop, 1) := by decide +kernel
theorem dX6_readsBehind_145 : decode cX6_readsBehind 145 = .ok (.iconst 0, 1) := by decide +kernel
theorem dX6_readsBehind_146 : decode cX6_readsBehind 146 = .ok (.ireturn, 1) := by decide +kernel
theorem dX6_readsSum_0 : decode cX6_readsSum 0 = .ok (.aload_n 0, 1) := by decide +kernel
theorem dX6_readsSum_1 : decode cX6_readsSum 1 = .ok (.getfield 28, 3) := by decide +kernel
theorem dX6_readsSum_4 : decode cX6_readsSum 4 = .ok (.aload_n 0, 1) := by decide +kernel
theorem dX6_readsSum_5 : decode cX6_readsSum 5 = .ok (.getfield 145, 3) := by decide +kernel
theorem dX6_readsSum_8 : decode cX6_readsSum 8 = .ok (.iconst 0, 1) := by decide +kernel
theorem dX6_readsSum_9 : decode cX6_readsSum 9 = .ok (.iastore, 1) := by decide +kernel
theorem dX6_readsSum_10 : decode cX6_readsSum 10 = .ok (.aload_n 0, 1) := by decide +kernel
theorem dX6_readsSum_11 : decode cX6_readsSum 11 = .ok (.iconst 0, 1) := by decide +kernel
theorem dX6_readsSum_12 : decode cX6_readsSum 12 = .ok (.putfield 151, 3) := by decide +kernel
theorem dX6_readsSum_15 : decode cX6_readsSum 15 = .ok (.aload_n 0, 1) := by decide +kernel
theorem dX6_readsSum_16 : decode cX6_readsSum 16 = .ok (.iconst 0, 1) := by decide +kernel
theorem dX6_readsSum_17 : decode cX6_readsSum 17 = .ok (.putfield 154, 3) := by decide +kernel
theorem dX6_readsSum_20 : decode cX6_readsSum 20 = .ok (.aload_n 0, 1) := by decide +kernel
theorem dX6_readsSum_21 : decode cX6_readsSum 21 = .ok (.iconst 0, 1) := by decide +kernel
theorem dX6_readsSum_22 : decode cX6_readsSum 22 = .ok (.putfield 171, 3) := by decide +kernel
theorem dX6_readsSum_25 : decode cX6_readsSum 25 = .ok (.aload_n 0, 1) := by decide +kernel
theorem dX6_readsSum_26 : decode cX6_readsSum 26 = .ok (.iconst 0, 1) := by decide +kernel
theorem dX6_readsSum_27 : decode cX6_readsSum 27 = .ok (.putfield 148, 3) := by decide +kernel
theorem dX6_readsSum_30 : decode cX6_readsSum 30 = .ok (.iconst 1, 1) := by decide +kernel
theorem dX6_readsSum_31 : decode cX6_readsSum 31 = .ok (.istore_n 1, 1) := by decide +kernel
theorem dX6_readsSum_32 : decode cX6_readsSum 32 = .ok (.iconst 1, 1) := by decide +kernel
theorem dX6_readsSum_33 : decode cX6_readsSum 33 = .ok (.istore_n 2, 1) := by decide +kernel
theorem dX6_readsSum_34 : decode cX6_readsSum 34 = .ok (.aload_n 0, 1) := by decide +kernel
theorem dX6_readsSum_35 : decode cX6_readsSum 35 = .ok (.invokevirtual 127, 3) := by decide +kernel
theorem dX6_readsSum_38 : decode cX6_readsSum 38 = .ok (.ifCond .eq 73, 3) := by decide +kernel
theorem dX6_readsSum_41 : decode cX6_readsSum 41 = .ok (.iload_n 2, 1) := by decide +kernel
theorem dX6_readsSum_42 : decode cX6_readsSum 42 = .ok (.ifCond .eq 69, 3) := by decide +kernel
theorem dX6_readsSum_45 : decode cX6_readsSum 45 = .ok (.iload_n 1, 1) := by decide +kernel
theorem dX6_readsSum_46 : decode cX6_readsSum 46 = .ok (.ifCond .eq 34, 3) := by decide +kernel
theorem dX6_readsSum_49 : decode cX6_readsSum 49 = .ok (.aload_n 0, 1) := by decide +kernel
theorem dX6_readsSum_50 : decode cX6_readsSum 50 = .ok (.invokevirtual 184, 3) := by decide +kernel
theorem dX6_readsSum_53 : decode cX6_readsSum 53 = .ok (.ifCond .ne 7, 3) := by decide +kernel
theorem dX6_readsSum_56 : decode cX6_readsSum 56 = .ok (.iconst 1, 1) := by decide +kernel
theorem dX6_readsSum_57 : decode cX6_readsSum 57 = .ok (.goto 4, 3) := by decide +kernel
theorem dX6_readsSum_60 : decode cX6_readsSum 60 = .ok (.iconst 0, 1) := by decide +kernel
theorem dX6_readsSum_61 : decode cX6_readsSum 61 = .ok (.istore_n 1, 1) := by decide +kernel
theorem dX6_readsSum_62 : decode cX6_readsSum 62 = .ok (.iload_n 1, 1) := by decide +kernel
theorem dX6_readsSum_63 : decode cX6_readsSum 63 = .ok (.ifCond .ne (-29), 3) := by decide +kernel
theorem dX6_readsSum_66 : decode cX6_readsSum 66 = .ok (.aload_n 0, 1) := by decide +kernel
theorem dX6_readsSum_67 : decode cX6_readsSum 67 = .ok (.invokevirtual 127, 3) := by decide +kernel
theorem dX6_readsSum_70 : decode cX6_readsSum 70 = .ok (.ifCond .eq (-36), 3) := by decide +kernel
theorem dX6_readsSum_73 : decode cX6_readsSum 73 = .ok (.aload_n 0, 1) := by decide +kernel
theorem dX6_readsSum_74 : decode cX6_readsSum 74 = .ok (.invokevirtual 181, 3) := by decide +kernel
theorem dX6_readsSum_77 : decode cX6_readsSum 77 = .ok (.goto (-43), 3) := by decide +kernel
theorem dX6_readsSum_80 : decode cX6_readsSum 80 = .ok (.aload_n 0, 1) := by decide +kernel
theorem dX6_readsSum_81 : decode cX6_readsSum 81 = .ok (.getfield 111, 3) := by decide +kernel
theorem dX6_readsSum_84 : decode cX6_readsSum 84 = .ok (.istore_n 3, 1) := by decide +kernel
theorem dX6_readsSum_85 : decode cX6_readsSum 85 = .ok (.aload_n 0, 1) := by decide +kernel
theorem dX6_readsSum_86 : decode cX6_readsSum 86 = .ok (.invokevirtual 187, 3) := by decide +kernel
theorem dX6_readsSum_89 : decode cX6_readsSum 89 = .ok (.istore_n 1, 1) := by decide +kernel
theorem dX6_readsSum_90 : decode cX6_readsSum 90 = .ok (.iload_n 1, 1) := by decide +kernel
theorem dX6_readsSum_91 : decode cX6_readsSum 91 = .ok (.ifCond .ne 11, 3) := by decide +kernel
theorem dX6_readsSum_94 : decode cX6_readsSum 94 = .ok (.aload_n 0, 1) := by decide +kernel
theorem dX6_readsSum_95 : decode cX6_readsSum 95 = .ok (.getfield 111, 3) := by decide +kernel
theorem dX6_readsSum_98 : decode cX6_readsSum 98 = .ok (.iload_n 3, 1) := by decide +kernel
theorem dX6_readsSum_99 : decode cX6_readsSum 99 = .ok (.if_icmp .le 7, 3) := by decide +kernel
theorem dX6_readsSum_102 : decode cX6_readsSum 102 = .ok (.iconst 1, 1) := by decide +kernel
theorem dX6_readsSum_103 : decode cX6_readsSum 103 = .ok (.goto 4, 3) := by decide +kernel
theorem dX6_readsSum_106 : decode cX6_readsSum 106 = .ok (.iconst 0, 1) := by decide +kernel
theorem dX6_readsSum_107 : decode cX6_readsSum 107 = .ok (.istore_n 2, 1) := by decide +kernel
theorem dX6_readsSum_108 : decode cX6_readsSum 108 = .ok (.goto (-74), 3) := by decide +kernel
theorem dX6_readsSum_111 : decode cX6_readsSum 111 = .ok (.aload_n 0, 1) := by decide +kernel
theorem dX6_readsSum_112 : decode cX6_readsSum 112 = .ok (.dup, 1) := by decide +kernel
theorem dX6_readsSum_113 : decode cX6_readsSum 113 = .ok (.getfield 145, 3) := by decide +kernel
theorem dX6_readsSum_116 : decode cX6_readsSum 116 = .ok (.iconst 1, 1) := by decide +kernel
theorem dX6_readsSum_117 : decode cX6_readsSum 117 = .ok (.iadd, 1) := by decide +kernel
theorem dX6_readsSum_118 : decode cX6_readsSum 118 = .ok (.putfield 145, 3) := by decide +kernel
theorem dX6_readsSum_121 : decode cX6_readsSum 121 = .ok (.return_, 1) := by decide +kernel
theorem dX6_readsItem_0 : decode cX6_readsItem 0 = .ok (.iload_n 1, 1) := by decide +kernel
theorem dX6_readsItem_1 : decode cX6_readsItem 1 = .ok (.bipush 70, 2) := by decide +kernel
theorem dX6_readsItem_3 : decode cX6_readsItem 3 = .ok (.if_icmp .ne 8, 3) := by decide +kernel
theorem dX6_readsItem_6 : decode cX6_readsItem 6 = .ok (.aload_n 0, 1) := by decide +kernel
theorem dX6_readsItem_7 : decode cX6_readsItem 7 = .ok (.invokevirtual 190, 3) := by decide +kernel
theorem dX6_readsItem_10 : decode cX6_readsItem 10 = .ok (.return_, 1) := by decide +kernel
theorem dX6_readsItem_11 : decode cX6_readsItem 11 = .ok (.aload_n 0, 1) := by decide +kernel
theorem dX6_readsItem_12 : decode cX6_readsItem 12 = .ok (.aload_n 0, 1) := by decide +kernel
theorem dX6_readsItem_13 : decode cX6_readsItem 13 = .ok (.invokevirtual 178, 3) := by decide +kernel
theorem dX6_readsItem_16 : decode cX6_readsItem 16 = .ok (.invokevirtual 137, 3) := by decide +kernel
theorem dX6_readsItem_19 : decode cX6_readsItem 19 = .ok (.bipush 97, 2) := by decide +kernel
theorem dX6_readsItem_21 : decode cX6_readsItem 21 = .ok (.isub, 1) := by decide +kernel
theorem dX6_readsItem_22 : decode cX6_readsItem 22 = .ok (.istore_n 2, 1) := by decide +kernel
theorem dX6_readsItem_23 : decode cX6_readsItem 23 = .ok (.iload_n 1, 1) := by decide +kernel
theorem dX6_readsItem_24 : decode cX6_readsItem 24 = .ok (.bipush 83, 2) := by decide +kernel
theorem dX6_readsItem_26 : decode cX6_readsItem 26 = .ok (.if_icmp .ne 49, 3) := by decide +kernel
theorem dX6_readsItem_29 : decode cX6_readsItem 29 = .ok (.aload_n 0, 1) := by decide +kernel
theorem dX6_readsItem_30 : decode cX6_readsItem 30 = .ok (.invokevirtual 193, 3) := by decide +kernel
theorem dX6_readsItem_33 : decode cX6_readsItem 33 = .ok (.istore_n 3, 1) := by decide +kernel
theorem dX6_readsItem_34 : decode cX6_readsItem 34 = .ok (.aload_n 0, 1) := by decide +kernel
theorem dX6_readsItem_35 : decode cX6_readsItem 35 = .ok (.aload_n 0, 1) := by decide +kernel
theorem dX6_readsItem_36 : decode cX6_readsItem 36 = .ok (.iconst 0, 1) := by decide +kernel
theorem dX6_readsItem_37 : decode cX6_readsItem 37 = .ok (.bipush 99, 2) := by decide +kernel
theorem dX6_readsItem_39 : decode cX6_readsItem 39 = .ok (.invokevirtual 141, 3) := by decide +kernel
theorem dX6_readsItem_42 : decode cX6_readsItem 42 = .ok (.invokevirtual 137, 3) := by decide +kernel
theorem dX6_readsItem_45 : decode cX6_readsItem 45 = .ok (.istore 4, 2) := by decide +kernel
theorem dX6_readsItem_47 : decode cX6_readsItem 47 = .ok (.aload_n 0, 1) := by decide +kernel
theorem dX6_readsItem_48 : decode cX6_readsItem 48 = .ok (.invokevirtual 127, 3) := by decide +kernel
theorem dX6_readsItem_51 : decode cX6_readsItem 51 = .ok (.ifCond .eq 21, 3) := by decide +kernel
theorem dX6_readsItem_54 : decode cX6_readsItem 54 = .ok (.aload_n 0, 1) := by decide +kernel
theorem dX6_readsItem_55 : decode cX6_readsItem 55 = .ok (.getfield 43, 3) := by decide +kernel
theorem dX6_readsItem_58 : decode cX6_readsItem 58 = .ok (.iload_n 2, 1) := by decide +kernel
theorem dX6_readsItem_59 : decode cX6_readsItem 59 = .ok (.iload_n 3, 1) := by decide +kernel
theorem dX6_readsItem_60 : decode cX6_readsItem 60 = .ok (.iastore, 1) := by decide +kernel
theorem dX6_readsItem_61 : decode cX6_readsItem 61 = .ok (.aload_n 0, 1) := by decide +kernel
theorem dX6_readsItem_62 : decode cX6_readsItem 62 = .ok (.getfield 43, 3) := by decide +kernel
theorem dX6_readsItem_65 : decode cX6_readsItem 65 = .ok (.bipush 6, 2) := by decide +kernel
theorem dX6_readsItem_67 : decode cX6_readsItem 67 = .ok (.iload_n 2, 1) := by decide +kernel
theorem dX6_readsItem_68 : decode cX6_readsItem 68 = .ok (.iadd, 1) := by decide +kernel
theorem dX6_readsItem_69 : decode cX6_readsItem 69 = .ok (.iload 4, 2) := by decide +kernel
theorem dX6_readsItem_71 : decode cX6_readsItem 71 = .ok (.iastore, 1) := by decide +kernel
theorem dX6_readsItem_72 : decode cX6_readsItem 72 = .ok (.goto 79, 3) := by decide +kernel
theorem dX6_readsItem_75 : decode cX6_readsItem 75 = .ok (.aload_n 0, 1) := by decide +kernel
theorem dX6_readsItem_76 : decode cX6_readsItem 76 = .ok (.aload_n 0, 1) := by decide +kernel
theorem dX6_readsItem_77 : decode cX6_readsItem 77 = .ok (.invokevirtual 178, 3) := by decide +kernel
theorem dX6_readsItem_80 : decode cX6_readsItem 80 = .ok (.ifCond .eq 18, 3) := by decide +kernel
theorem dX6_readsItem_83 : decode cX6_readsItem 83 = .ok (.aload_n 0, 1) := by decide +kernel
theorem dX6_readsItem_84 : decode cX6_readsItem 84 = .ok (.getfield 117, 3) := by decide +kernel
theorem dX6_readsItem_87 : decode cX6_readsItem 87 = .ok (.bipush 97, 2) := by decide +kernel
theorem dX6_readsItem_89 : decode cX6_readsItem 89 = .ok (.isub, 1) := by decide +kernel
theorem dX6_readsItem_90 : decode cX6_readsItem 90 = .ok (.iload_n 2, 1) := by decide +kernel
theorem dX6_readsItem_91 : decode cX6_readsItem 91 = .ok (.if_icmp .eq 7, 3) := by decide +kernel
theorem dX6_readsItem_94 : decode cX6_readsItem 94 = .ok (.iconst 1, 1) := by decide +kernel
theorem dX6_readsItem_95 : decode cX6_readsItem 95 = .ok (.goto 4, 3) := by decide +kernel
theorem dX6_readsItem_98 : decode cX6_readsItem 98 = .ok (.iconst 0, 1) := by decide +kernel
theorem dX6_readsItem_99 : decode cX6_readsItem 99 = .ok (.invokevirtual 137, 3) := by decide +kernel
theorem dX6_readsItem_102 : decode cX6_readsItem 102 = .ok (.bipush 97, 2) := by decide +kernel
theorem dX6_readsItem_104 : decode cX6_readsItem 104 = .ok (.isub, 1) := by decide +kernel
theorem dX6_readsItem_105 : decode cX6_readsItem 105 = .ok (.istore_n 3, 1) := by decide +kernel
theorem dX6_readsItem_106 : decode cX6_readsItem 106 = .ok (.aload_n 0, 1) := by decide +kernel
theorem dX6_readsItem_107 : decode cX6_readsItem 107 = .ok (.invokevirtual 193, 3) := by decide +kernel
theorem dX6_readsItem_110 : decode cX6_readsItem 110 = .ok (.istore 4, 2) := by decide +kernel
theorem dX6_readsItem_112 : decode cX6_readsItem 112 = .ok (.aload_n 0, 1) := by decide +kernel
theorem dX6_readsItem_113 : decode cX6_readsItem 113 = .ok (.invokevirtual 127, 3) := by decide +kernel
theorem dX6_readsItem_116 : decode cX6_readsItem 116 = .ok (.ifCond .eq 35, 3) := by decide +kernel
theorem dX6_readsItem_119 : decode cX6_readsItem 119 = .ok (.aload_n 0, 1) := by decide +kernel
theorem dX6_readsItem_120 : decode cX6_readsItem 120 = .ok (.getfield 43, 3) := by decide +kernel
theorem dX6_readsItem_123 : decode cX6_readsItem 123 = .ok (.bipush 12, 2) := by decide +kernel
theorem dX6_readsItem_125 : decode cX6_readsItem 125 = .ok (.bipush 6, 2) := by decide +kernel
theorem dX6_readsItem_127 : decode cX6_readsItem 127 = .ok (.iload_n 2, 1) := by decide +kernel
theorem dX6_readsItem_128 : decode cX6_readsItem 128 = .ok (.imul, 1) := by decide +kernel
theorem dX6_readsItem_129 : decode cX6_readsItem 129 = .ok (.iadd, 1) := by decide +kernel
theorem dX6_readsItem_130 : decode cX6_readsItem 130 = .ok (.iload_n 3, 1) := by decide +kernel
theorem dX6_readsItem_131 : decode cX6_readsItem 131 = .ok (.iadd, 1) := by decide +kernel
theorem dX6_readsItem_132 : decode cX6_readsItem 132 = .ok (.iload 4, 2) := by decide +kernel
theorem dX6_readsItem_134 : decode cX6_readsItem 134 = .ok (.iastore, 1) := by decide +kernel
theorem dX6_readsItem_135 : decode cX6_readsItem 135 = .ok (.aload_n 0, 1) := by decide +kernel
theorem dX6_readsItem_136 : decode cX6_readsItem 136 = .ok (.getfield 43, 3) := by decide +kernel
theorem dX6_readsItem_139 : decode cX6_readsItem 139 = .ok (.bipush 12, 2) := by decide +kernel
theorem dX6_readsItem_141 : decode cX6_readsItem 141 = .ok (.bipush 6, 2) := by decide +kernel
theorem dX6_readsItem_143 : decode cX6_readsItem 143 = .ok (.iload_n 3, 1) := by decide +kernel
theorem dX6_readsItem_144 : decode cX6_readsItem 144 = .ok (.imul, 1) := by decide +kernel
theorem dX6_readsItem_145 : decode cX6_readsItem 145 = .ok (.iadd, 1) := by decide +kernel
theorem dX6_readsItem_146 : decode cX6_readsItem 146 = .ok (.iload_n 2, 1) := by decide +kernel
theorem dX6_readsItem_147 : decode cX6_readsItem 147 = .ok (.iadd, 1) := by decide +kernel
theorem dX6_readsItem_148 : decode cX6_readsItem 148 = .ok (.iload 4, 2) := by decide +kernel
theorem dX6_readsItem_150 : decode cX6_readsItem 150 = .ok (.iastore, 1) := by decide +kernel
theorem dX6_readsItem_151 : decode cX6_readsItem 151 = .ok (.return_, 1) := by decide +kernel
theorem dX6_desk_0 : decode cX6_desk 0 = .ok (.aload_n 0, 1) := by decide +kernel
theorem dX6_desk_1 : decode cX6_desk 1 = .ok (.iconst 0, 1) := by decide +kernel
theorem dX6_desk_2 : decode cX6_desk 2 = .ok (.putfield 93, 3) := by decide +kernel
theorem dX6_desk_5 : decode cX6_desk 5 = .ok (.aload_n 0, 1) := by decide +kernel
theorem dX6_desk_6 : decode cX6_desk 6 = .ok (.iconst (-1), 1) := by decide +kernel
theorem dX6_desk_7 : decode cX6_desk 7 = .ok (.putfield 124, 3) := by decide +kernel
theorem dX6_desk_10 : decode cX6_desk 10 = .ok (.aload_n 0, 1) := by decide +kernel
theorem dX6_desk_11 : decode cX6_desk 11 = .ok (.iconst 0, 1) := by decide +kernel
theorem dX6_desk_12 : decode cX6_desk 12 = .ok (.putfield 104, 3) := by decide +kernel
theorem dX6_desk_15 : decode cX6_desk 15 = .ok (.aload_n 0, 1) := by decide +kernel
theorem dX6_desk_16 : decode cX6_desk 16 = .ok (.invokevirtual 87, 3) := by decide +kernel
theorem dX6_desk_19 : decode cX6_desk 19 = .ok (.iconst 0, 1) := by decide +kernel
theorem dX6_desk_20 : decode cX6_desk 20 = .ok (.istore_n 1, 1) := by decide +kernel
theorem dX6_desk_21 : decode cX6_desk 21 = .ok (.aload_n 0, 1) := by decide +kernel
theorem dX6_desk_22 : decode cX6_desk 22 = .ok (.invokevirtual 131, 3) := by decide +kernel
theorem dX6_desk_25 : decode cX6_desk 25 = .ok (.aload_n 0, 1) := by decide +kernel
theorem dX6_desk_26 : decode cX6_desk 26 = .ok (.invokevirtual 127, 3) := by decide +kernel
theorem dX6_desk_29 : decode cX6_desk 29 = .ok (.ifCond .eq 84, 3) := by decide +kernel
theorem dX6_desk_32 : decode cX6_desk 32 = .ok (.aload_n 0, 1) := by decide +kernel
theorem dX6_desk_33 : decode cX6_desk 33 = .ok (.getfield 114, 3) := by decide +kernel
theorem dX6_desk_36 : decode cX6_desk 36 = .ok (.ifCond .eq 77, 3) := by decide +kernel
theorem dX6_desk_39 : decode cX6_desk 39 = .ok (.aload_n 0, 1) := by decide +kernel
theorem dX6_desk_40 : decode cX6_desk 40 = .ok (.aload_n 0, 1) := by decide +kernel
theorem dX6_desk_41 : decode cX6_desk 41 = .ok (.bipush 83, 2) := by decide +kernel
theorem dX6_desk_43 : decode cX6_desk 43 = .ok (.invokevirtual 134, 3) := by decide +kernel
theorem dX6_desk_46 : decode cX6_desk 46 = .ok (.ifCond .ne 29, 3) := by decide +kernel
theorem dX6_desk_49 : decode cX6_desk 49 = .ok (.aload_n 0, 1) := by decide +kernel
theorem dX6_desk_50 : decode cX6_desk 50 = .ok (.bipush 67, 2) := by decide +kernel
theorem dX6_desk_52 : decode cX6_desk 52 = .ok (.invokevirtual 134, 3) := by decide +kernel
theorem dX6_desk_55 : decode cX6_desk 55 = .ok (.ifCond .ne 20, 3) := by decide +kernel
theorem dX6_desk_58 : decode cX6_desk 58 = .ok (.aload_n 0, 1) := by decide +kernel
theorem dX6_desk_59 : decode cX6_desk 59 = .ok (.bipush 70, 2) := by decide +kernel
theorem dX6_desk_61 : decode cX6_desk 61 = .ok (.invokevirtual 134, 3) := by decide +kernel
theorem dX6_desk_64 : decode cX6_desk 64 = .ok (.ifCond .eq 15, 3) := by decide +kernel
theorem dX6_desk_67 : decode cX6_desk 67 = .ok (.aload_n 0, 1) := by decide +kernel
theorem dX6_desk_68 : decode cX6_desk 68 = .ok (.getfield 145, 3) := by decide +kernel
theorem dX6_desk_71 : decode cX6_desk 71 = .ok (.iconst 4, 1) := by decide +kernel
theorem dX6_desk_72 : decode cX6_desk 72 = .ok (.if_icmp .ge 7, 3) := by decide +kernel
theorem dX6_desk_75 : decode cX6_desk 75 = .ok (.iconst 1, 1) := by decide +kernel
theorem dX6_desk_76 : decode cX6_desk 76 = .ok (.goto 4, 3) := by decide +kernel
theorem dX6_desk_79 : decode cX6_desk 79 = .ok (.iconst 0, 1) := by decide +kernel
theorem dX6_desk_80 : decode cX6_desk 80 = .ok (.invokevirtual 137, 3) := by decide +kernel
theorem dX6_desk_83 : decode cX6_desk 83 = .ok (.istore_n 2, 1) := by decide +kernel
theorem dX6_desk_84 : decode cX6_desk 84 = .ok (.aload_n 0, 1) := by decide +kernel
theorem dX6_desk_85 : decode cX6_desk 85 = .ok (.invokevirtual 127, 3) := by decide +kernel
theorem dX6_desk_88 : decode cX6_desk 88 = .ok (.ifCond .eq 8, 3) := by decide +kernel
theorem dX6_desk_91 : decode cX6_desk 91 = .ok (.aload_n 0, 1) := by decide +kernel
theorem dX6_desk_92 : decode cX6_desk 92 = .ok (.iload_n 2, 1) := by decide +kernel
theorem dX6_desk_93 : decode cX6_desk 93 = .ok (.invokevirtual 196, 3) := by decide +kernel
theorem dX6_desk_96 : decode cX6_desk 96 = .ok (.aload_n 0, 1) := by decide +kernel
theorem dX6_desk_97 : decode cX6_desk 97 = .ok (.aload_n 0, 1) := by decide +kernel
theorem dX6_desk_98 : decode cX6_desk 98 = .ok (.bipush 59, 2) := by decide +kernel
theorem dX6_desk_100 : decode cX6_desk 100 = .ok (.invokevirtual 134, 3) := by decide +kernel
theorem dX6_desk_103 : decode cX6_desk 103 = .ok (.invokevirtual 137, 3) := by decide +kernel
theorem dX6_desk_106 : decode cX6_desk 106 = .ok (.pop, 1) := by decide +kernel
theorem dX6_desk_107 : decode cX6_desk 107 = .ok (.iinc 1 1, 3) := by decide +kernel
theorem dX6_desk_110 : decode cX6_desk 110 = .ok (.goto (-85), 3) := by decide +kernel
theorem dX6_desk_113 : decode cX6_desk 113 = .ok (.aload_n 0, 1) := by decide +kernel
theorem dX6_desk_114 : decode cX6_desk 114 = .ok (.invokevirtual 127, 3) := by decide +kernel
theorem dX6_desk_117 : decode cX6_desk 117 = .ok (.ifCond .ne 11, 3) := by decide +kernel
theorem dX6_desk_120 : decode cX6_desk 120 = .ok (.bipush (-10), 2) := by decide +kernel
theorem dX6_desk_122 : decode cX6_desk 122 = .ok (.aload_n 0, 1) := by decide +kernel
theorem dX6_desk_123 : decode cX6_desk 123 = .ok (.getfield 124, 3) := by decide +kernel
theorem dX6_desk_126 : decode cX6_desk 126 = .ok (.isub, 1) := by decide +kernel
theorem dX6_desk_127 : decode cX6_desk 127 = .ok (.ireturn, 1) := by decide +kernel
theorem dX6_desk_128 : decode cX6_desk 128 = .ok (.aload_n 0, 1) := by decide +kernel
theorem dX6_desk_129 : decode cX6_desk 129 = .ok (.invokevirtual 90, 3) := by decide +kernel
theorem dX6_desk_132 : decode cX6_desk 132 = .ok (.iload_n 1, 1) := by decide +kernel
theorem dX6_desk_133 : decode cX6_desk 133 = .ok (.ireturn, 1) := by decide +kernel
theorem dX6_settles_0 : decode cX6_settles 0 = .ok (.aload_n 0, 1) := by decide +kernel
theorem dX6_settles_1 : decode cX6_settles 1 = .ok (.aload_n 0, 1) := by decide +kernel
theorem dX6_settles_2 : decode cX6_settles 2 = .ok (.getfield 145, 3) := by decide +kernel
theorem dX6_settles_5 : decode cX6_settles 5 = .ok (.putfield 199, 3) := by decide +kernel
theorem dX6_settles_8 : decode cX6_settles 8 = .ok (.iconst 0, 1) := by decide +kernel
theorem dX6_settles_9 : decode cX6_settles 9 = .ok (.istore_n 1, 1) := by decide +kernel
theorem dX6_settles_10 : decode cX6_settles 10 = .ok (.iload_n 1, 1) := by decide +kernel
theorem dX6_settles_11 : decode cX6_settles 11 = .ok (.iconst 4, 1) := by decide +kernel
theorem dX6_settles_12 : decode cX6_settles 12 = .ok (.if_icmp .ge 33, 3) := by decide +kernel
theorem dX6_settles_15 : decode cX6_settles 15 = .ok (.aload_n 0, 1) := by decide +kernel
theorem dX6_settles_16 : decode cX6_settles 16 = .ok (.getfield 13, 3) := by decide +kernel
theorem dX6_settles_19 : decode cX6_settles 19 = .ok (.iload_n 1, 1) := by decide +kernel
theorem dX6_settles_20 : decode cX6_settles 20 = .ok (.iload_n 1, 1) := by decide +kernel
theorem dX6_settles_21 : decode cX6_settles 21 = .ok (.aload_n 0, 1) := by decide +kernel
theorem dX6_settles_22 : decode cX6_settles 22 = .ok (.getfield 199, 3) := by decide +kernel
theorem dX6_settles_25 : decode cX6_settles 25 = .ok (.if_icmp .ge 12, 3) := by decide +kernel
theorem dX6_settles_28 : decode cX6_settles 28 = .ok (.aload_n 0, 1) := by decide +kernel
theorem dX6_settles_29 : decode cX6_settles 29 = .ok (.getfield 28, 3) := by decide +kernel
theorem dX6_settles_32 : decode cX6_settles 32 = .ok (.iload_n 1, 1) := by decide +kernel
theorem dX6_settles_33 : decode cX6_settles 33 = .ok (.iaload, 1) := by decide +kernel
theorem dX6_settles_34 : decode cX6_settles 34 = .ok (.goto 4, 3) := by decide +kernel
theorem dX6_settles_37 : decode cX6_settles 37 = .ok (.iconst 0, 1) := by decide +kernel
theorem dX6_settles_38 : decode cX6_settles 38 = .ok (.iastore, 1) := by decide +kernel
theorem dX6_settles_39 : decode cX6_settles 39 = .ok (.iinc 1 1, 3) := by decide +kernel
theorem dX6_settles_42 : decode cX6_settles 42 = .ok (.goto (-32), 3) := by decide +kernel
theorem dX6_settles_45 : decode cX6_settles 45 = .ok (.iconst 0, 1) := by decide +kernel
theorem dX6_settles_46 : decode cX6_settles 46 = .ok (.istore_n 1, 1) := by decide +kernel
theorem dX6_settles_47 : decode cX6_settles 47 = .ok (.iload_n 1, 1) := by decide +kernel
theorem dX6_settles_48 : decode cX6_settles 48 = .ok (.bipush 80, 2) := by decide +kernel
theorem dX6_settles_50 : decode cX6_settles 50 = .ok (.if_icmp .ge 57, 3) := by decide +kernel
theorem dX6_settles_53 : decode cX6_settles 53 = .ok (.aload_n 0, 1) := by decide +kernel
theorem dX6_settles_54 : decode cX6_settles 54 = .ok (.getfield 16, 3) := by decide +kernel
theorem dX6_settles_57 : decode cX6_settles 57 = .ok (.iload_n 1, 1) := by decide +kernel
theorem dX6_settles_58 : decode cX6_settles 58 = .ok (.aload_n 0, 1) := by decide +kernel
theorem dX6_settles_59 : decode cX6_settles 59 = .ok (.getfield 31, 3) := by decide +kernel
theorem dX6_settles_62 : decode cX6_settles 62 = .ok (.iload_n 1, 1) := by decide +kernel
theorem dX6_settles_63 : decode cX6_settles 63 = .ok (.iaload, 1) := by decide +kernel
theorem dX6_settles_64 : decode cX6_settles 64 = .ok (.iastore, 1) := by decide +kernel
theorem dX6_settles_65 : decode cX6_settles 65 = .ok (.aload_n 0, 1) := by decide +kernel
theorem dX6_settles_66 : decode cX6_settles 66 = .ok (.getfield 19, 3) := by decide +kernel
theorem dX6_settles_69 : decode cX6_settles 69 = .ok (.iload_n 1, 1) := by decide +kernel
theorem dX6_settles_70 : decode cX6_settles 70 = .ok (.aload_n 0, 1) := by decide +kernel
theorem dX6_settles_71 : decode cX6_settles 71 = .ok (.getfield 34, 3) := by decide +kernel
theorem dX6_settles_74 : decode cX6_settles 74 = .ok (.iload_n 1, 1) := by decide +kernel
theorem dX6_settles_75 : decode cX6_settles 75 = .ok (.iaload, 1) := by decide +kernel
theorem dX6_settles_76 : decode cX6_settles 76 = .ok (.iastore, 1) := by decide +kernel
theorem dX6_settles_77 : decode cX6_settles 77 = .ok (.aload_n 0, 1) := by decide +kernel
theorem dX6_settles_78 : decode cX6_settles 78 = .ok (.getfield 22, 3) := by decide +kernel
theorem dX6_settles_81 : decode cX6_settles 81 = .ok (.iload_n 1, 1) := by decide +kernel
theorem dX6_settles_82 : decode cX6_settles 82 = .ok (.aload_n 0, 1) := by decide +kernel
theorem dX6_settles_83 : decode cX6_settles 83 = .ok (.getfield 37, 3) := by decide +kernel
theorem dX6_settles_86 : decode cX6_settles 86 = .ok (.iload_n 1, 1) := by decide +kernel
theorem dX6_settles_87 : decode cX6_settles 87 = .ok (.iaload, 1) := by decide +kernel
theorem dX6_settles_88 : decode cX6_settles 88 = .ok (.iastore, 1) := by decide +kernel
theorem dX6_settles_89 : decode cX6_settles 89 = .ok (.aload_n 0, 1) := by decide +kernel
theorem dX6_settles_90 : decode cX6_settles 90 = .ok (.getfield 25, 3) := by decide +kernel
theorem dX6_settles_93 : decode cX6_settles 93 = .ok (.iload_n 1, 1) := by decide +kernel
theorem dX6_settles_94 : decode cX6_settles 94 = .ok (.aload_n 0, 1) := by decide +kernel
theorem dX6_settles_95 : decode cX6_settles 95 = .ok (.getfield 40, 3) := by decide +kernel
theorem dX6_settles_98 : decode cX6_settles 98 = .ok (.iload_n 1, 1) := by decide +kernel
theorem dX6_settles_99 : decode cX6_settles 99 = .ok (.iaload, 1) := by decide +kernel
theorem dX6_settles_100 : decode cX6_settles 100 = .ok (.iastore, 1) := by decide +kernel
theorem dX6_settles_101 : decode cX6_settles 101 = .ok (.iinc 1 1, 3) := by decide +kernel
theorem dX6_settles_104 : decode cX6_settles 104 = .ok (.goto (-57), 3) := by decide +kernel
theorem dX6_settles_107 : decode cX6_settles 107 = .ok (.iconst 0, 1) := by decide +kernel
theorem dX6_settles_108 : decode cX6_settles 108 = .ok (.istore_n 1, 1) := by decide +kernel
theorem dX6_settles_109 : decode cX6_settles 109 = .ok (.iload_n 1, 1) := by decide +kernel
theorem dX6_settles_110 : decode cX6_settles 110 = .ok (.bipush 48, 2) := by decide +kernel
theorem dX6_settles_112 : decode cX6_settles 112 = .ok (.if_icmp .ge 21, 3) := by decide +kernel
theorem dX6_settles_115 : decode cX6_settles 115 = .ok (.aload_n 0, 1) := by decide +kernel
theorem dX6_settles_116 : decode cX6_settles 116 = .ok (.getfield 46, 3) := by decide +kernel
theorem dX6_settles_119 : decode cX6_settles 119 = .ok (.iload_n 1, 1) := by decide +kernel
theorem dX6_settles_120 : decode cX6_settles 120 = .ok (.aload_n 0, 1) := by decide +kernel
theorem dX6_settles_121 : decode cX6_settles 121 = .ok (.getfield 43, 3) := by decide +kernel
theorem dX6_settles_124 : decode cX6_settles 124 = .ok (.iload_n 1, 1) := by decide +kernel
theorem dX6_settles_125 : decode cX6_settles 125 = .ok (.iaload, 1) := by decide +kernel
theorem dX6_settles_126 : decode cX6_settles 126 = .ok (.iastore, 1) := by decide +kernel
theorem dX6_settles_127 : decode cX6_settles 127 = .ok (.iinc 1 1, 3) := by decide +kernel
theorem dX6_settles_130 : decode cX6_settles 130 = .ok (.goto (-21), 3) := by decide +kernel
theorem dX6_settles_133 : decode cX6_settles 133 = .ok (.aload_n 0, 1) := by decide +kernel
theorem dX6_settles_134 : decode cX6_settles 134 = .ok (.iconst 0, 1) := by decide +kernel
theorem dX6_settles_135 : decode cX6_settles 135 = .ok (.putfield 101, 3) := by decide +kernel
theorem dX6_settles_138 : decode cX6_settles 138 = .ok (.aload_n 0, 1) := by decide +kernel
theorem dX6_settles_139 : decode cX6_settles 139 = .ok (.iconst 0, 1) := by decide +kernel
theorem dX6_settles_140 : decode cX6_settles 140 = .ok (.putfield 202, 3) := by decide +kernel
theorem dX6_settles_143 : decode cX6_settles 143 = .ok (.aload_n 0, 1) := by decide +kernel
theorem dX6_settles_144 : decode cX6_settles 144 = .ok (.iconst 0, 1) := by decide +kernel
theorem dX6_settles_145 : decode cX6_settles 145 = .ok (.putfield 205, 3) := by decide +kernel
theorem dX6_settles_148 : decode cX6_settles 148 = .ok (.aload_n 0, 1) := by decide +kernel
theorem dX6_settles_149 : decode cX6_settles 149 = .ok (.getfield 55, 3) := by decide +kernel
theorem dX6_settles_152 : decode cX6_settles 152 = .ok (.iconst 0, 1) := by decide +kernel
theorem dX6_settles_153 : decode cX6_settles 153 = .ok (.iconst 0, 1) := by decide +kernel
theorem dX6_settles_154 : decode cX6_settles 154 = .ok (.bastore, 1) := by decide +kernel
theorem dX6_settles_155 : decode cX6_settles 155 = .ok (.aload_n 0, 1) := by decide +kernel
theorem dX6_settles_156 : decode cX6_settles 156 = .ok (.getfield 55, 3) := by decide +kernel
theorem dX6_settles_159 : decode cX6_settles 159 = .ok (.iconst 1, 1) := by decide +kernel
theorem dX6_settles_160 : decode cX6_settles 160 = .ok (.iconst 0, 1) := by decide +kernel
theorem dX6_settles_161 : decode cX6_settles 161 = .ok (.bastore, 1) := by decide +kernel
theorem dX6_settles_162 : decode cX6_settles 162 = .ok (.return_, 1) := by decide +kernel
theorem dX6_isFormula_0 : decode cX6_isFormula 0 = .ok (.iload_n 1, 1) := by decide +kernel
theorem dX6_isFormula_1 : decode cX6_isFormula 1 = .ok (.iconst 0, 1) := by decide +kernel
theorem dX6_isFormula_2 : decode cX6_isFormula 2 = .ok (.aload_n 0, 1) := by decide +kernel
theorem dX6_isFormula_3 : decode cX6_isFormula 3 = .ok (.getfield 199, 3) := by decide +kernel
theorem dX6_isFormula_6 : decode cX6_isFormula 6 = .ok (.iconst 1, 1) := by decide +kernel
theorem dX6_isFormula_7 : decode cX6_isFormula 7 = .ok (.isub, 1) := by decide +kernel
theorem dX6_isFormula_8 : decode cX6_isFormula 8 = .ok (.invokestatic 97, 3) := by decide +kernel
theorem dX6_isFormula_11 : decode cX6_isFormula 11 = .ok (.ireturn, 1) := by decide +kernel
theorem dX6_isSource_0 : decode cX6_isSource 0 = .ok (.iload_n 0, 1) := by decide +kernel
theorem dX6_isSource_1 : decode cX6_isSource 1 = .ok (.iconst 0, 1) := by decide +kernel
theorem dX6_isSource_2 : decode cX6_isSource 2 = .ok (.iconst 5, 1) := by decide +kernel
theorem dX6_isSource_3 : decode cX6_isSource 3 = .ok (.invokestatic 97, 3) := by decide +kernel
theorem dX6_isSource_6 : decode cX6_isSource 6 = .ok (.ireturn, 1) := by decide +kernel
theorem dX6_source_0 : decode cX6_source 0 = .ok (.aload_n 0, 1) := by decide +kernel
theorem dX6_source_1 : decode cX6_source 1 = .ok (.iconst 0, 1) := by decide +kernel
theorem dX6_source_2 : decode cX6_source 2 = .ok (.putfield 93, 3) := by decide +kernel
theorem dX6_source_5 : decode cX6_source 5 = .ok (.iload_n 1, 1) := by decide +kernel
theorem dX6_source_6 : decode cX6_source 6 = .ok (.invokestatic 208, 3) := by decide +kernel
theorem dX6_source_9 : decode cX6_source 9 = .ok (.ifCond .eq 27, 3) := by decide +kernel
theorem dX6_source_12 : decode cX6_source 12 = .ok (.iload_n 2, 1) := by decide +kernel
theorem dX6_source_13 : decode cX6_source 13 = .ok (.iconst 0, 1) := by decide +kernel
theorem dX6_source_14 : decode cX6_source 14 = .ok (.iconst 1, 1) := by decide +kernel
theorem dX6_source_15 : decode cX6_source 15 = .ok (.invokestatic 97, 3) := by decide +kernel
theorem dX6_source_18 : decode cX6_source 18 = .ok (.ifCond .eq 18, 3) := by decide +kernel
theorem dX6_source_21 : decode cX6_source 21 = .ok (.aload_n 0, 1) := by decide +kernel
theorem dX6_source_22 : decode cX6_source 22 = .ok (.getfield 46, 3) := by decide +kernel
theorem dX6_source_25 : decode cX6_source 25 = .ok (.bipush 6, 2) := by decide +kernel
theorem dX6_source_27 : decode cX6_source 27 = .ok (.iload_n 2, 1) := by decide +kernel
theorem dX6_source_28 : decode cX6_source 28 = .ok (.imul, 1) := by decide +kernel
theorem dX6_source_29 : decode cX6_source 29 = .ok (.iload_n 1, 1) := by decide +kernel
theorem dX6_source_30 : decode cX6_source 30 = .ok (.iadd, 1) := by decide +kernel
theorem dX6_source_31 : decode cX6_source 31 = .ok (.iaload, 1) := by decide +kernel
theorem dX6_source_32 : decode cX6_source 32 = .ok (.i2l, 1) := by decide +kernel
theorem dX6_source_33 : decode cX6_source 33 = .ok (.goto 6, 3) := by decide +kernel
theorem dX6_source_36 : decode cX6_source 36 = .ok (.ldc2_w 211, 3) := by decide +kernel
theorem dX6_source_39 : decode cX6_source 39 = .ok (.lreturn, 1) := by decide +kernel
theorem dX6_jointOf_0 : decode cX6_jointOf 0 = .ok (.iload_n 1, 1) := by decide +kernel
theorem dX6_jointOf_1 : decode cX6_jointOf 1 = .ok (.iload_n 2, 1) := by decide +kernel
theorem dX6_jointOf_2 : decode cX6_jointOf 2 = .ok (.if_icmp .ne 15, 3) := by decide +kernel
theorem dX6_jointOf_5 : decode cX6_jointOf 5 = .ok (.aload_n 0, 1) := by decide +kernel
theorem dX6_jointOf_6 : decode cX6_jointOf 6 = .ok (.getfield 46, 3) := by decide +kernel
theorem dX6_jointOf_9 : decode cX6_jointOf 9 = .ok (.bipush 6, 2) := by decide +kernel
theorem dX6_jointOf_11 : decode cX6_jointOf 11 = .ok (.iload_n 1, 1) := by decide +kernel
theorem dX6_jointOf_12 : decode cX6_jointOf 12 = .ok (.iadd, 1) := by decide +kernel
theorem dX6_jointOf_13 : decode cX6_jointOf 13 = .ok (.iaload, 1) := by decide +kernel
theorem dX6_jointOf_14 : decode cX6_jointOf 14 = .ok (.goto 17, 3) := by decide +kernel
theorem dX6_jointOf_17 : decode cX6_jointOf 17 = .ok (.aload_n 0, 1) := by decide +kernel
theorem dX6_jointOf_18 : decode cX6_jointOf 18 = .ok (.getfield 46, 3) := by decide +kernel
theorem dX6_jointOf_21 : decode cX6_jointOf 21 = .ok (.bipush 12, 2) := by decide +kernel
theorem dX6_jointOf_23 : decode cX6_jointOf 23 = .ok (.bipush 6, 2) := by decide +kernel
theorem dX6_jointOf_25 : decode cX6_jointOf 25 = .ok (.iload_n 1, 1) := by decide +kernel
theorem dX6_jointOf_26 : decode cX6_jointOf 26 = .ok (.imul, 1) := by decide +kernel
theorem dX6_jointOf_27 : decode cX6_jointOf 27 = .ok (.iadd, 1) := by decide +kernel
theorem dX6_jointOf_28 : decode cX6_jointOf 28 = .ok (.iload_n 2, 1) := by decide +kernel
theorem dX6_jointOf_29 : decode cX6_jointOf 29 = .ok (.iadd, 1) := by decide +kernel
theorem dX6_jointOf_30 : decode cX6_jointOf 30 = .ok (.iaload, 1) := by decide +kernel
theorem dX6_jointOf_31 : decode cX6_jointOf 31 = .ok (.ireturn, 1) := by decide +kernel
theorem dX6_joint_0 : decode cX6_joint 0 = .ok (.aload_n 0, 1) := by decide +kernel
theorem dX6_joint_1 : decode cX6_joint 1 = .ok (.iconst 0, 1) := by decide +kernel
theorem dX6_joint_2 : decode cX6_joint 2 = .ok (.putfield 93, 3) := by decide +kernel
theorem dX6_joint_5 : decode cX6_joint 5 = .ok (.iload_n 1, 1) := by decide +kernel
theorem dX6_joint_6 : decode cX6_joint 6 = .ok (.invokestatic 208, 3) := by decide +kernel
theorem dX6_joint_9 : decode cX6_joint 9 = .ok (.ifCond .eq 20, 3) := by decide +kernel
theorem dX6_joint_12 : decode cX6_joint 12 = .ok (.iload_n 2, 1) := by decide +kernel
theorem dX6_joint_13 : decode cX6_joint 13 = .ok (.invokestatic 208, 3) := by decide +kernel
theorem dX6_joint_16 : decode cX6_joint 16 = .ok (.ifCond .eq 13, 3) := by decide +kernel
theorem dX6_joint_19 : decode cX6_joint 19 = .ok (.aload_n 0, 1) := by decide +kernel
theorem dX6_joint_20 : decode cX6_joint 20 = .ok (.iload_n 1, 1) := by decide +kernel
theorem dX6_joint_21 : decode cX6_joint 21 = .ok (.iload_n 2, 1) := by decide +kernel
theorem dX6_joint_22 : decode cX6_joint 22 = .ok (.invokevirtual 213, 3) := by decide +kernel
theorem dX6_joint_25 : decode cX6_joint 25 = .ok (.i2l, 1) := by decide +kernel
theorem dX6_joint_26 : decode cX6_joint 26 = .ok (.goto 6, 3) := by decide +kernel
theorem dX6_joint_29 : decode cX6_joint 29 = .ok (.ldc2_w 211, 3) := by decide +kernel
theorem dX6_joint_32 : decode cX6_joint 32 = .ok (.lreturn, 1) := by decide +kernel
theorem dX6_notes_0 : decode cX6_notes 0 = .ok (.aload_n 0, 1) := by decide +kernel
theorem dX6_notes_1 : decode cX6_notes 1 = .ok (.getfield 205, 3) := by decide +kernel
theorem dX6_notes_4 : decode cX6_notes 4 = .ok (.bipush 10, 2) := by decide +kernel
theorem dX6_notes_6 : decode cX6_notes 6 = .ok (.if_icmp .ne 39, 3) := by decide +kernel
theorem dX6_notes_9 : decode cX6_notes 9 = .ok (.iconst 0, 1) := by decide +kernel
theorem dX6_notes_10 : decode cX6_notes 10 = .ok (.istore_n 1, 1) := by decide +kernel
theorem dX6_notes_11 : decode cX6_notes 11 = .ok (.iload_n 1, 1) := by decide +kernel
theorem dX6_notes_12 : decode cX6_notes 12 = .ok (.sipush 432, 3) := by decide +kernel
theorem dX6_notes_15 : decode cX6_notes 15 = .ok (.if_icmp .ge 24, 3) := by decide +kernel
theorem dX6_notes_18 : decode cX6_notes 18 = .ok (.aload_n 0, 1) := by decide +kernel
theorem dX6_notes_19 : decode cX6_notes 19 = .ok (.getfield 49, 3) := by decide +kernel
theorem dX6_notes_22 : decode cX6_notes 22 = .ok (.iload_n 1, 1) := by decide +kernel
theorem dX6_notes_23 : decode cX6_notes 23 = .ok (.aload_n 0, 1) := by decide +kernel
theorem dX6_notes_24 : decode cX6_notes 24 = .ok (.getfield 49, 3) := by decide +kernel
theorem dX6_notes_27 : decode cX6_notes 27 = .ok (.iload_n 1, 1) := by decide +kernel
theorem dX6_notes_28 : decode cX6_notes 28 = .ok (.bipush 48, 2) := by decide +kernel
theorem dX6_notes_30 : decode cX6_notes 30 = .ok (.iadd, 1) := by decide +kernel
theorem dX6_notes_31 : decode cX6_notes 31 = .ok (.iaload, 1) := by decide +kernel
theorem dX6_notes_32 : decode cX6_notes 32 = .ok (.iastore, 1) := by decide +kernel
theorem dX6_notes_33 : decode cX6_notes 33 = .ok (.iinc 1 1, 3) := by decide +kernel
theorem dX6_notes_36 : decode cX6_notes 36 = .ok (.goto (-25), 3) := by decide +kernel
theorem dX6_notes_39 : decode cX6_notes 39 = .ok (.aload_n 0, 1) := by decide +kernel
theorem dX6_notes_40 : decode cX6_notes 40 = .ok (.bipush 9, 2) := by decide +kernel
theorem dX6_notes_42 : decode cX6_notes 42 = .ok (.putfield 205, 3) := by decide +kernel
theorem dX6_notes_45 : decode cX6_notes 45 = .ok (.iconst 0, 1) := by decide +kernel
theorem dX6_notes_46 : decode cX6_notes 46 = .ok (.istore_n 1, 1) := by decide +kernel
theorem dX6_notes_47 : decode cX6_notes 47 = .ok (.iload_n 1, 1) := by decide +kernel
theorem dX6_notes_48 : decode cX6_notes 48 = .ok (.bipush 48, 2) := by decide +kernel
theorem dX6_notes_50 : decode cX6_notes 50 = .ok (.if_icmp .ge 29, 3) := by decide +kernel
theorem dX6_notes_53 : decode cX6_notes 53 = .ok (.aload_n 0, 1) := by decide +kernel
theorem dX6_notes_54 : decode cX6_notes 54 = .ok (.getfield 49, 3) := by decide +kernel
theorem dX6_notes_57 : decode cX6_notes 57 = .ok (.bipush 48, 2) := by decide +kernel
theorem dX6_notes_59 : decode cX6_notes 59 = .ok (.aload_n 0, 1) := by decide +kernel
theorem dX6_notes_60 : decode cX6_notes 60 = .ok (.getfield 205, 3) := by decide +kernel
theorem dX6_notes_63 : decode cX6_notes 63 = .ok (.imul, 1) := by decide +kernel
theorem dX6_notes_64 : decode cX6_notes 64 = .ok (.iload_n 1, 1) := by decide +kernel
theorem dX6_notes_65 : decode cX6_notes 65 = .ok (.iadd, 1) := by decide +kernel
theorem dX6_notes_66 : decode cX6_notes 66 = .ok (.aload_n 0, 1) := by decide +kernel
theorem dX6_notes_67 : decode cX6_notes 67 = .ok (.getfield 46, 3) := by decide +kernel
theorem dX6_notes_70 : decode cX6_notes 70 = .ok (.iload_n 1, 1) := by decide +kernel
theorem dX6_notes_71 : decode cX6_notes 71 = .ok (.iaload, 1) := by decide +kernel
theorem dX6_notes_72 : decode cX6_notes 72 = .ok (.iastore, 1) := by decide +kernel
theorem dX6_notes_73 : decode cX6_notes 73 = .ok (.iinc 1 1, 3) := by decide +kernel
theorem dX6_notes_76 : decode cX6_notes 76 = .ok (.goto (-29), 3) := by decide +kernel
theorem dX6_notes_79 : decode cX6_notes 79 = .ok (.aload_n 0, 1) := by decide +kernel
theorem dX6_notes_80 : decode cX6_notes 80 = .ok (.dup, 1) := by decide +kernel
theorem dX6_notes_81 : decode cX6_notes 81 = .ok (.getfield 205, 3) := by decide +kernel
theorem dX6_notes_84 : decode cX6_notes 84 = .ok (.iconst 1, 1) := by decide +kernel
theorem dX6_notes_85 : decode cX6_notes 85 = .ok (.iadd, 1) := by decide +kernel
theorem dX6_notes_86 : decode cX6_notes 86 = .ok (.putfield 205, 3) := by decide +kernel
theorem dX6_notes_89 : decode cX6_notes 89 = .ok (.return_, 1) := by decide +kernel
theorem dX6_values_0 : decode cX6_values 0 = .ok (.aload_n 0, 1) := by decide +kernel
theorem dX6_values_1 : decode cX6_values 1 = .ok (.iconst 0, 1) := by decide +kernel
theorem dX6_values_2 : decode cX6_values 2 = .ok (.putfield 93, 3) := by decide +kernel
theorem dX6_values_5 : decode cX6_values 5 = .ok (.iload_n 1, 1) := by decide +kernel
theorem dX6_values_6 : decode cX6_values 6 = .ok (.invokestatic 208, 3) := by decide +kernel
theorem dX6_values_9 : decode cX6_values 9 = .ok (.ifCond .eq 14, 3) := by decide +kernel
theorem dX6_values_12 : decode cX6_values 12 = .ok (.iload_n 2, 1) := by decide +kernel
theorem dX6_values_13 : decode cX6_values 13 = .ok (.bipush (-99), 2) := by decide +kernel
theorem dX6_values_15 : decode cX6_values 15 = .ok (.bipush 99, 2) := by decide +kernel
theorem dX6_values_17 : decode cX6_values 17 = .ok (.invokestatic 97, 3) := by decide +kernel
theorem dX6_values_20 : decode cX6_values 20 = .ok (.ifCond .ne 5, 3) := by decide +kernel
theorem dX6_values_23 : decode cX6_values 23 = .ok (.iconst (-1), 1) := by decide +kernel
theorem dX6_values_24 : decode cX6_values 24 = .ok (.ireturn, 1) := by decide +kernel
theorem dX6_values_25 : decode cX6_values 25 = .ok (.aload_n 0, 1) := by decide +kernel
theorem dX6_values_26 : decode cX6_values 26 = .ok (.getfield 46, 3) := by decide +kernel
theorem dX6_values_29 : decode cX6_values 29 = .ok (.iload_n 1, 1) := by decide +kernel
theorem dX6_values_30 : decode cX6_values 30 = .ok (.iaload, 1) := by decide +kernel
theorem dX6_values_31 : decode cX6_values 31 = .ok (.iload_n 2, 1) := by decide +kernel
theorem dX6_values_32 : decode cX6_values 32 = .ok (.if_icmp .ne 6, 3) := by decide +kernel
theorem dX6_values_35 : decode cX6_values 35 = .ok (.bipush (-2), 2) := by decide +kernel
theorem dX6_values_37 : decode cX6_values 37 = .ok (.ireturn, 1) := by decide +kernel
theorem dX6_values_38 : decode cX6_values 38 = .ok (.aload_n 0, 1) := by decide +kernel
theorem dX6_values_39 : decode cX6_values 39 = .ok (.invokevirtual 217, 3) := by decide +kernel
theorem dX6_values_42 : decode cX6_values 42 = .ok (.aload_n 0, 1) := by decide +kernel
theorem dX6_values_43 : decode cX6_values 43 = .ok (.getfield 46, 3) := by decide +kernel
theorem dX6_values_46 : decode cX6_values 46 = .ok (.iload_n 1, 1) := by decide +kernel
theorem dX6_values_47 : decode cX6_values 47 = .ok (.iload_n 2, 1) := by decide +kernel
theorem dX6_values_48 : decode cX6_values 48 = .ok (.iastore, 1) := by decide +kernel
theorem dX6_values_49 : decode cX6_values 49 = .ok (.iconst 1, 1) := by decide +kernel
theorem dX6_values_50 : decode cX6_values 50 = .ok (.ireturn, 1) := by decide +kernel
theorem dX6_spreads_0 : decode cX6_spreads 0 = .ok (.aload_n 0, 1) := by decide +kernel
theorem dX6_spreads_1 : decode cX6_spreads 1 = .ok (.iconst 0, 1) := by decide +kernel
theorem dX6_spreads_2 : decode cX6_spreads 2 = .ok (.putfield 93, 3) := by decide +kernel
theorem dX6_spreads_5 : decode cX6_spreads 5 = .ok (.iload_n 1, 1) := by decide +kernel
theorem dX6_spreads_6 : decode cX6_spreads 6 = .ok (.invokestatic 208, 3) := by decide +kernel
theorem dX6_spreads_9 : decode cX6_spreads 9 = .ok (.ifCond .eq 13, 3) := by decide +kernel
theorem dX6_spreads_12 : decode cX6_spreads 12 = .ok (.iload_n 2, 1) := by decide +kernel
theorem dX6_spreads_13 : decode cX6_spreads 13 = .ok (.iconst 0, 1) := by decide +kernel
theorem dX6_spreads_14 : decode cX6_spreads 14 = .ok (.bipush 99, 2) := by decide +kernel
theorem dX6_spreads_16 : decode cX6_spreads 16 = .ok (.invokestatic 97, 3) := by decide +kernel
theorem dX6_spreads_19 : decode cX6_spreads 19 = .ok (.ifCond .ne 5, 3) := by decide +kernel
theorem dX6_spreads_22 : decode cX6_spreads 22 = .ok (.iconst (-1), 1) := by decide +kernel
theorem dX6_spreads_23 : decode cX6_spreads 23 = .ok (.ireturn, 1) := by decide +kernel
theorem dX6_spreads_24 : decode cX6_spreads 24 = .ok (.aload_n 0, 1) := by decide +kernel
theorem dX6_spreads_25 : decode cX6_spreads 25 = .ok (.invokevirtual 217, 3) := by decide +kernel
theorem dX6_spreads_28 : decode cX6_spreads 28 = .ok (.aload_n 0, 1) := by decide +kernel
theorem dX6_spreads_29 : decode cX6_spreads 29 = .ok (.getfield 46, 3) := by decide +kernel
theorem dX6_spreads_32 : decode cX6_spreads 32 = .ok (.bipush 6, 2) := by decide +kernel
theorem dX6_spreads_34 : decode cX6_spreads 34 = .ok (.iload_n 1, 1) := by decide +kernel
theorem dX6_spreads_35 : decode cX6_spreads 35 = .ok (.iadd, 1) := by decide +kernel
theorem dX6_spreads_36 : decode cX6_spreads 36 = .ok (.iaload, 1) := by decide +kernel
theorem dX6_spreads_37 : decode cX6_spreads 37 = .ok (.istore_n 3, 1) := by decide +kernel
theorem dX6_spreads_38 : decode cX6_spreads 38 = .ok (.aload_n 0, 1) := by decide +kernel
theorem dX6_spreads_39 : decode cX6_spreads 39 = .ok (.getfield 46, 3) := by decide +kernel
theorem dX6_spreads_42 : decode cX6_spreads 42 = .ok (.bipush 6, 2) := by decide +kernel
theorem dX6_spreads_44 : decode cX6_spreads 44 = .ok (.iload_n 1, 1) := by decide +kernel
theorem dX6_spreads_45 : decode cX6_spreads 45 = .ok (.iadd, 1) := by decide +kernel
theorem dX6_spreads_46 : decode cX6_spreads 46 = .ok (.iload_n 2, 1) := by decide +kernel
theorem dX6_spreads_47 : decode cX6_spreads 47 = .ok (.iastore, 1) := by decide +kernel
theorem dX6_spreads_48 : decode cX6_spreads 48 = .ok (.iload_n 3, 1) := by decide +kernel
theorem dX6_spreads_49 : decode cX6_spreads 49 = .ok (.ireturn, 1) := by decide +kernel
theorem dX6_joints_0 : decode cX6_joints 0 = .ok (.aload_n 0, 1) := by decide +kernel
theorem dX6_joints_1 : decode cX6_joints 1 = .ok (.iconst 0, 1) := by decide +kernel
theorem dX6_joints_2 : decode cX6_joints 2 = .ok (.putfield 93, 3) := by decide +kernel
theorem dX6_joints_5 : decode cX6_joints 5 = .ok (.iload_n 1, 1) := by decide +kernel
theorem dX6_joints_6 : decode cX6_joints 6 = .ok (.invokestatic 208, 3) := by decide +kernel
theorem dX6_joints_9 : decode cX6_joints 9 = .ok (.ifCond .eq 26, 3) := by decide +kernel
theorem dX6_joints_12 : decode cX6_joints 12 = .ok (.iload_n 2, 1) := by decide +kernel
theorem dX6_joints_13 : decode cX6_joints 13 = .ok (.invokestatic 208, 3) := by decide +kernel
theorem dX6_joints_16 : decode cX6_joints 16 = .ok (.ifCond .eq 19, 3) := by decide +kernel
theorem dX6_joints_19 : decode cX6_joints 19 = .ok (.iload_n 1, 1) := by decide +kernel
theorem dX6_joints_20 : decode cX6_joints 20 = .ok (.iload_n 2, 1) := by decide +kernel
theorem dX6_joints_21 : decode cX6_joints 21 = .ok (.if_icmp .eq 14, 3) := by decide +kernel
theorem dX6_joints_24 : decode cX6_joints 24 = .ok (.iload_n 3, 1) := by decide +kernel
theorem dX6_joints_25 : decode cX6_joints 25 = .ok (.bipush (-99), 2) := by decide +kernel
theorem dX6_joints_27 : decode cX6_joints 27 = .ok (.bipush 99, 2) := by decide +kernel
theorem dX6_joints_29 : decode cX6_joints 29 = .ok (.invokestatic 97, 3) := by decide +kernel
theorem dX6_joints_32 : decode cX6_joints 32 = .ok (.ifCond .ne 5, 3) := by decide +kernel
theorem dX6_joints_35 : decode cX6_joints 35 = .ok (.iconst (-1), 1) := by decide +kernel
theorem dX6_joints_36 : decode cX6_joints 36 = .ok (.ireturn, 1) := by decide +kernel
theorem dX6_joints_37 : decode cX6_joints 37 = .ok (.aload_n 0, 1) := by decide +kernel
theorem dX6_joints_38 : decode cX6_joints 38 = .ok (.iload_n 1, 1) := by decide +kernel
theorem dX6_joints_39 : decode cX6_joints 39 = .ok (.iload_n 2, 1) := by decide +kernel
theorem dX6_joints_40 : decode cX6_joints 40 = .ok (.invokevirtual 213, 3) := by decide +kernel
theorem dX6_joints_43 : decode cX6_joints 43 = .ok (.iload_n 3, 1) := by decide +kernel
theorem dX6_joints_44 : decode cX6_joints 44 = .ok (.if_icmp .ne 6, 3) := by decide +kernel
theorem dX6_joints_47 : decode cX6_joints 47 = .ok (.bipush (-2), 2) := by decide +kernel
theorem dX6_joints_49 : decode cX6_joints 49 = .ok (.ireturn, 1) := by decide +kernel
theorem dX6_joints_50 : decode cX6_joints 50 = .ok (.aload_n 0, 1) := by decide +kernel
theorem dX6_joints_51 : decode cX6_joints 51 = .ok (.invokevirtual 217, 3) := by decide +kernel
theorem dX6_joints_54 : decode cX6_joints 54 = .ok (.aload_n 0, 1) := by decide +kernel
theorem dX6_joints_55 : decode cX6_joints 55 = .ok (.getfield 46, 3) := by decide +kernel
theorem dX6_joints_58 : decode cX6_joints 58 = .ok (.bipush 12, 2) := by decide +kernel
theorem dX6_joints_60 : decode cX6_joints 60 = .ok (.bipush 6, 2) := by decide +kernel
theorem dX6_joints_62 : decode cX6_joints 62 = .ok (.iload_n 1, 1) := by decide +kernel
theorem dX6_joints_63 : decode cX6_joints 63 = .ok (.imul, 1) := by decide +kernel
theorem dX6_joints_64 : decode cX6_joints 64 = .ok (.iadd, 1) := by decide +kernel
theorem dX6_joints_65 : decode cX6_joints 65 = .ok (.iload_n 2, 1) := by decide +kernel
theorem dX6_joints_66 : decode cX6_joints 66 = .ok (.iadd, 1) := by decide +kernel
theorem dX6_joints_67 : decode cX6_joints 67 = .ok (.iload_n 3, 1) := by decide +kernel
theorem dX6_joints_68 : decode cX6_joints 68 = .ok (.iastore, 1) := by decide +kernel
theorem dX6_joints_69 : decode cX6_joints 69 = .ok (.aload_n 0, 1) := by decide +kernel
theorem dX6_joints_70 : decode cX6_joints 70 = .ok (.getfield 46, 3) := by decide +kernel
theorem dX6_joints_73 : decode cX6_joints 73 = .ok (.bipush 12, 2) := by decide +kernel
theorem dX6_joints_75 : decode cX6_joints 75 = .ok (.bipush 6, 2) := by decide +kernel
theorem dX6_joints_77 : decode cX6_joints 77 = .ok (.iload_n 2, 1) := by decide +kernel
theorem dX6_joints_78 : decode cX6_joints 78 = .ok (.imul, 1) := by decide +kernel
theorem dX6_joints_79 : decode cX6_joints 79 = .ok (.iadd, 1) := by decide +kernel
theorem dX6_joints_80 : decode cX6_joints 80 = .ok (.iload_n 1, 1) := by decide +kernel
theorem dX6_joints_81 : decode cX6_joints 81 = .ok (.iadd, 1) := by decide +kernel
theorem dX6_joints_82 : decode cX6_joints 82 = .ok (.iload_n 3, 1) := by decide +kernel
theorem dX6_joints_83 : decode cX6_joints 83 = .ok (.iastore, 1) := by decide +kernel
theorem dX6_joints_84 : decode cX6_joints 84 = .ok (.iconst 1, 1) := by decide +kernel
theorem dX6_joints_85 : decode cX6_joints 85 = .ok (.ireturn, 1) := by decide +kernel
theorem dX6_undo_0 : decode cX6_undo 0 = .ok (.aload_n 0, 1) := by decide +kernel
theorem dX6_undo_1 : decode cX6_undo 1 = .ok (.iconst 0, 1) := by decide +kernel
theorem dX6_undo_2 : decode cX6_undo 2 = .ok (.putfield 93, 3) := by decide +kernel
theorem dX6_undo_5 : decode cX6_undo 5 = .ok (.aload_n 0, 1) := by decide +kernel
theorem dX6_undo_6 : decode cX6_undo 6 = .ok (.getfield 205, 3) := by decide +kernel
theorem dX6_undo_9 : decode cX6_undo 9 = .ok (.ifCond .ne 6, 3) := by decide +kernel
theorem dX6_undo_12 : decode cX6_undo 12 = .ok (.bipush (-2), 2) := by decide +kernel
theorem dX6_undo_14 : decode cX6_undo 14 = .ok (.ireturn, 1) := by decide +kernel
theorem dX6_undo_15 : decode cX6_undo 15 = .ok (.aload_n 0, 1) := by decide +kernel
theorem dX6_undo_16 : decode cX6_undo 16 = .ok (.dup, 1) := by decide +kernel
theorem dX6_undo_17 : decode cX6_undo 17 = .ok (.getfield 205, 3) := by decide +kernel
theorem dX6_undo_20 : decode cX6_undo 20 = .ok (.iconst 1, 1) := by decide +kernel
theorem dX6_undo_21 : decode cX6_undo 21 = .ok (.isub, 1) := by decide +kernel
theorem dX6_undo_22 : decode cX6_undo 22 = .ok (.putfield 205, 3) := by decide +kernel
theorem dX6_undo_25 : decode cX6_undo 25 = .ok (.iconst 0, 1) := by decide +kernel
theorem dX6_undo_26 : decode cX6_undo 26 = .ok (.istore_n 1, 1) := by decide +kernel
theorem dX6_undo_27 : decode cX6_undo 27 = .ok (.iload_n 1, 1) := by decide +kernel
theorem dX6_undo_28 : decode cX6_undo 28 = .ok (.bipush 48, 2) := by decide +kernel
theorem dX6_undo_30 : decode cX6_undo 30 = .ok (.if_icmp .ge 29, 3) := by decide +kernel
theorem dX6_undo_33 : decode cX6_undo 33 = .ok (.aload_n 0, 1) := by decide +kernel
theorem dX6_undo_34 : decode cX6_undo 34 = .ok (.getfield 46, 3) := by decide +kernel
theorem dX6_undo_37 : decode cX6_undo 37 = .ok (.iload_n 1, 1) := by decide +kernel
theorem dX6_undo_38 : decode cX6_undo 38 = .ok (.aload_n 0, 1) := by decide +kernel
theorem dX6_undo_39 : decode cX6_undo 39 = .ok (.getfield 49, 3) := by decide +kernel
theorem dX6_undo_42 : decode cX6_undo 42 = .ok (.bipush 48, 2) := by decide +kernel
theorem dX6_undo_44 : decode cX6_undo 44 = .ok (.aload_n 0, 1) := by decide +kernel
theorem dX6_undo_45 : decode cX6_undo 45 = .ok (.getfield 205, 3) := by decide +kernel
theorem dX6_undo_48 : decode cX6_undo 48 = .ok (.imul, 1) := by decide +kernel
theorem dX6_undo_49 : decode cX6_undo 49 = .ok (.iload_n 1, 1) := by decide +kernel
theorem dX6_undo_50 : decode cX6_undo 50 = .ok (.iadd, 1) := by decide +kernel
theorem dX6_undo_51 : decode cX6_undo 51 = .ok (.iaload, 1) := by decide +kernel
theorem dX6_undo_52 : decode cX6_undo 52 = .ok (.iastore, 1) := by decide +kernel
theorem dX6_undo_53 : decode cX6_undo 53 = .ok (.iinc 1 1, 3) := by decide +kernel
theorem dX6_undo_56 : decode cX6_undo 56 = .ok (.goto (-29), 3) := by decide +kernel
theorem dX6_undo_59 : decode cX6_undo 59 = .ok (.aload_n 0, 1) := by decide +kernel
theorem dX6_undo_60 : decode cX6_undo 60 = .ok (.getfield 205, 3) := by decide +kernel
theorem dX6_undo_63 : decode cX6_undo 63 = .ok (.ireturn, 1) := by decide +kernel
theorem dX6_power_0 : decode cX6_power 0 = .ok (.lconst 1, 1) := by decide +kernel
theorem dX6_power_1 : decode cX6_power 1 = .ok (.lstore_n 3, 1) := by decide +kernel
theorem dX6_power_2 : decode cX6_power 2 = .ok (.iconst 0, 1) := by decide +kernel
theorem dX6_power_3 : decode cX6_power 3 = .ok (.istore 5, 2) := by decide +kernel
theorem dX6_power_5 : decode cX6_power 5 = .ok (.iload 5, 2) := by decide +kernel
theorem dX6_power_7 : decode cX6_power 7 = .ok (.iload_n 2, 1) := by decide +kernel
theorem dX6_power_8 : decode cX6_power 8 = .ok (.if_icmp .ge 13, 3) := by decide +kernel
theorem dX6_power_11 : decode cX6_power 11 = .ok (.lload_n 3, 1) := by decide +kernel
theorem dX6_power_12 : decode cX6_power 12 = .ok (.lload_n 0, 1) := by decide +kernel
theorem dX6_power_13 : decode cX6_power 13 = .ok (.lmul, 1) := by decide +kernel
theorem dX6_power_14 : decode cX6_power 14 = .ok (.lstore_n 3, 1) := by decide +kernel
theorem dX6_power_15 : decode cX6_power 15 = .ok (.iinc 5 1, 3) := by decide +kernel
theorem dX6_power_18 : decode cX6_power 18 = .ok (.goto (-13), 3) := by decide +kernel
theorem dX6_power_21 : decode cX6_power 21 = .ok (.lload_n 3, 1) := by decide +kernel
theorem dX6_power_22 : decode cX6_power 22 = .ok (.lreturn, 1) := by decide +kernel
theorem dX6_copiesNode_0 : decode cX6_copiesNode 0 = .ok (.aload_n 0, 1) := by decide +kernel
theorem dX6_copiesNode_1 : decode cX6_copiesNode 1 = .ok (.getfield 72, 3) := by decide +kernel
theorem dX6_copiesNode_4 : decode cX6_copiesNode 4 = .ok (.iload_n 2, 1) := by decide +kernel
theorem dX6_copiesNode_5 : decode cX6_copiesNode 5 = .ok (.aload_n 0, 1) := by decide +kernel
theorem dX6_copiesNode_6 : decode cX6_copiesNode 6 = .ok (.getfield 72, 3) := by decide +kernel
theorem dX6_copiesNode_9 : decode cX6_copiesNode 9 = .ok (.iload_n 1, 1) := by decide +kernel
theorem dX6_copiesNode_10 : decode cX6_copiesNode 10 = .ok (.laload, 1) := by decide +kernel
theorem dX6_copiesNode_11 : decode cX6_copiesNode 11 = .ok (.lastore, 1) := by decide +kernel
theorem dX6_copiesNode_12 : decode cX6_copiesNode 12 = .ok (.iconst 0, 1) := by decide +kernel
theorem dX6_copiesNode_13 : decode cX6_copiesNode 13 = .ok (.istore_n 3, 1) := by decide +kernel
theorem dX6_copiesNode_14 : decode cX6_copiesNode 14 = .ok (.iload_n 3, 1) := by decide +kernel
theorem dX6_copiesNode_15 : decode cX6_copiesNode 15 = .ok (.bipush 6, 2) := by decide +kernel
theorem dX6_copiesNode_17 : decode cX6_copiesNode 17 = .ok (.if_icmp .ge 31, 3) := by decide +kernel
theorem dX6_copiesNode_20 : decode cX6_copiesNode 20 = .ok (.aload_n 0, 1) := by decide +kernel
theorem dX6_copiesNode_21 : decode cX6_copiesNode 21 = .ok (.getfield 75, 3) := by decide +kernel
theorem dX6_copiesNode_24 : decode cX6_copiesNode 24 = .ok (.bipush 6, 2) := by decide +kernel
theorem dX6_copiesNode_26 : decode cX6_copiesNode 26 = .ok (.iload_n 2, 1) := by decide +kernel
theorem dX6_copiesNode_27 : decode cX6_copiesNode 27 = .ok (.imul, 1) := by decide +kernel
theorem dX6_copiesNode_28 : decode cX6_copiesNode 28 = .ok (.iload_n 3, 1) := by decide +kernel
theorem dX6_copiesNode_29 : decode cX6_copiesNode 29 = .ok (.iadd, 1) := by decide +kernel
theorem dX6_copiesNode_30 : decode cX6_copiesNode 30 = .ok (.aload_n 0, 1) := by decide +kernel
theorem dX6_copiesNode_31 : decode cX6_copiesNode 31 = .ok (.getfield 75, 3) := by decide +kernel
theorem dX6_copiesNode_34 : decode cX6_copiesNode 34 = .ok (.bipush 6, 2) := by decide +kernel
theorem dX6_copiesNode_36 : decode cX6_copiesNode 36 = .ok (.iload_n 1, 1) := by decide +kernel
theorem dX6_copiesNode_37 : decode cX6_copiesNode 37 = .ok (.imul, 1) := by decide +kernel
theorem dX6_copiesNode_38 : decode cX6_copiesNode 38 = .ok (.iload_n 3, 1) := by decide +kernel
theorem dX6_copiesNode_39 : decode cX6_copiesNode 39 = .ok (.iadd, 1) := by decide +kernel
theorem dX6_copiesNode_40 : decode cX6_copiesNode 40 = .ok (.laload, 1) := by decide +kernel
theorem dX6_copiesNode_41 : decode cX6_copiesNode 41 = .ok (.lastore, 1) := by decide +kernel
theorem dX6_copiesNode_42 : decode cX6_copiesNode 42 = .ok (.iinc 3 1, 3) := by decide +kernel
theorem dX6_copiesNode_45 : decode cX6_copiesNode 45 = .ok (.goto (-31), 3) := by decide +kernel
theorem dX6_copiesNode_48 : decode cX6_copiesNode 48 = .ok (.iconst 0, 1) := by decide +kernel
theorem dX6_copiesNode_49 : decode cX6_copiesNode 49 = .ok (.istore_n 3, 1) := by decide +kernel
theorem dX6_copiesNode_50 : decode cX6_copiesNode 50 = .ok (.iload_n 3, 1) := by decide +kernel
theorem dX6_copiesNode_51 : decode cX6_copiesNode 51 = .ok (.bipush 36, 2) := by decide +kernel
theorem dX6_copiesNode_53 : decode cX6_copiesNode 53 = .ok (.if_icmp .ge 31, 3) := by decide +kernel
theorem dX6_copiesNode_56 : decode cX6_copiesNode 56 = .ok (.aload_n 0, 1) := by decide +kernel
theorem dX6_copiesNode_57 : decode cX6_copiesNode 57 = .ok (.getfield 78, 3) := by decide +kernel
theorem dX6_copiesNode_60 : decode cX6_copiesNode 60 = .ok (.bipush 36, 2) := by decide +kernel
theorem dX6_copiesNode_62 : decode cX6_copiesNode 62 = .ok (.iload_n 2, 1) := by decide +kernel
theorem dX6_copiesNode_63 : decode cX6_copiesNode 63 = .ok (.imul, 1) := by decide +kernel
theorem dX6_copiesNode_64 : decode cX6_copiesNode 64 = .ok (.iload_n 3, 1) := by decide +kernel
theorem dX6_copiesNode_65 : decode cX6_copiesNode 65 = .ok (.iadd, 1) := by decide +kernel
theorem dX6_copiesNode_66 : decode cX6_copiesNode 66 = .ok (.aload_n 0, 1) := by decide +kernel
theorem dX6_copiesNode_67 : decode cX6_copiesNode 67 = .ok (.getfield 78, 3) := by decide +kernel
theorem dX6_copiesNode_70 : decode cX6_copiesNode 70 = .ok (.bipush 36, 2) := by decide +kernel
theorem dX6_copiesNode_72 : decode cX6_copiesNode 72 = .ok (.iload_n 1, 1) := by decide +kernel
theorem dX6_copiesNode_73 : decode cX6_copiesNode 73 = .ok (.imul, 1) := by decide +kernel
theorem dX6_copiesNode_74 : decode cX6_copiesNode 74 = .ok (.iload_n 3, 1) := by decide +kernel
theorem dX6_copiesNode_75 : decode cX6_copiesNode 75 = .ok (.iadd, 1) := by decide +kernel
theorem dX6_copiesNode_76 : decode cX6_copiesNode 76 = .ok (.laload, 1) := by decide +kernel
theorem dX6_copiesNode_77 : decode cX6_copiesNode 77 = .ok (.lastore, 1) := by decide +kernel
theorem dX6_copiesNode_78 : decode cX6_copiesNode 78 = .ok (.iinc 3 1, 3) := by decide +kernel
theorem dX6_copiesNode_81 : decode cX6_copiesNode 81 = .ok (.goto (-31), 3) := by decide +kernel
theorem dX6_copiesNode_84 : decode cX6_copiesNode 84 = .ok (.return_, 1) := by decide +kernel
theorem dX6_goesLeaf_0 : decode cX6_goesLeaf 0 = .ok (.aload_n 0, 1) := by decide +kernel
theorem dX6_goesLeaf_1 : decode cX6_goesLeaf 1 = .ok (.getfield 72, 3) := by decide +kernel
theorem dX6_goesLeaf_4 : decode cX6_goesLeaf 4 = .ok (.iload_n 1, 1) := by decide +kernel
theorem dX6_goesLeaf_5 : decode cX6_goesLeaf 5 = .ok (.aload_n 0, 1) := by decide +kernel
theorem dX6_goesLeaf_6 : decode cX6_goesLeaf 6 = .ok (.getfield 16, 3) := by decide +kernel
theorem dX6_goesLeaf_9 : decode cX6_goesLeaf 9 = .ok (.iload_n 1, 1) := by decide +kernel
theorem dX6_goesLeaf_10 : decode cX6_goesLeaf 10 = .ok (.iaload, 1) := by decide +kernel
theorem dX6_goesLeaf_11 : decode cX6_goesLeaf 11 = .ok (.ifCond .ne 13, 3) := by decide +kernel
theorem dX6_goesLeaf_14 : decode cX6_goesLeaf 14 = .ok (.aload_n 0, 1) := by decide +kernel
theorem dX6_goesLeaf_15 : decode cX6_goesLeaf 15 = .ok (.getfield 19, 3) := by decide +kernel
theorem dX6_goesLeaf_18 : decode cX6_goesLeaf 18 = .ok (.iload_n 1, 1) := by decide +kernel
theorem dX6_goesLeaf_19 : decode cX6_goesLeaf 19 = .ok (.iaload, 1) := by decide +kernel
theorem dX6_goesLeaf_20 : decode cX6_goesLeaf 20 = .ok (.i2l, 1) := by decide +kernel
theorem dX6_goesLeaf_21 : decode cX6_goesLeaf 21 = .ok (.goto 15, 3) := by decide +kernel
theorem dX6_goesLeaf_24 : decode cX6_goesLeaf 24 = .ok (.aload_n 0, 1) := by decide +kernel
theorem dX6_goesLeaf_25 : decode cX6_goesLeaf 25 = .ok (.getfield 46, 3) := by decide +kernel
theorem dX6_goesLeaf_28 : decode cX6_goesLeaf 28 = .ok (.aload_n 0, 1) := by decide +kernel
theorem dX6_goesLeaf_29 : decode cX6_goesLeaf 29 = .ok (.getfield 19, 3) := by decide +kernel
theorem dX6_goesLeaf_32 : decode cX6_goesLeaf 32 = .ok (.iload_n 1, 1) := by decide +kernel
theorem dX6_goesLeaf_33 : decode cX6_goesLeaf 33 = .ok (.iaload, 1) := by decide +kernel
theorem dX6_goesLeaf_34 : decode cX6_goesLeaf 34 = .ok (.iaload, 1) := by decide +kernel
theorem dX6_goesLeaf_35 : decode cX6_goesLeaf 35 = .ok (.i2l, 1) := by decide +kernel
theorem dX6_goesLeaf_36 : decode cX6_goesLeaf 36 = .ok (.lastore, 1) := by decide +kernel
theorem dX6_goesLeaf_37 : decode cX6_goesLeaf 37 = .ok (.iconst 0, 1) := by decide +kernel
theorem dX6_goesLeaf_38 : decode cX6_goesLeaf 38 = .ok (.istore_n 2, 1) := by decide +kernel
theorem dX6_goesLeaf_39 : decode cX6_goesLeaf 39 = .ok (.iload_n 2, 1) := by decide +kernel
theorem dX6_goesLeaf_40 : decode cX6_goesLeaf 40 = .ok (.bipush 6, 2) := by decide +kernel
theorem dX6_goesLeaf_42 : decode cX6_goesLeaf 42 = .ok (.if_icmp .ge 45, 3) := by decide +kernel
theorem dX6_goesLeaf_45 : decode cX6_goesLeaf 45 = .ok (.aload_n 0, 1) := by decide +kernel
theorem dX6_goesLeaf_46 : decode cX6_goesLeaf 46 = .ok (.getfield 75, 3) := by decide +kernel
theorem dX6_goesLeaf_49 : decode cX6_goesLeaf 49 = .ok (.bipush 6, 2) := by decide +kernel
theorem dX6_goesLeaf_51 : decode cX6_goesLeaf 51 = .ok (.iload_n 1, 1) := by decide +kernel
theorem dX6_goesLeaf_52 : decode cX6_goesLeaf 52 = .ok (.imul, 1) := by decide +kernel
theorem dX6_goesLeaf_53 : decode cX6_goesLeaf 53 = .ok (.iload_n 2, 1) := by decide +kernel
theorem dX6_goesLeaf_54 : decode cX6_goesLeaf 54 = .ok (.iadd, 1) := by decide +kernel
theorem dX6_goesLeaf_55 : decode cX6_goesLeaf 55 = .ok (.aload_n 0, 1) := by decide +kernel
theorem dX6_goesLeaf_56 : decode cX6_goesLeaf 56 = .ok (.getfield 16, 3) := by decide +kernel
theorem dX6_goesLeaf_59 : decode cX6_goesLeaf 59 = .ok (.iload_n 1, 1) := by decide +kernel
theorem dX6_goesLeaf_60 : decode cX6_goesLeaf 60 = .ok (.iaload, 1) := by decide +kernel
theorem dX6_goesLeaf_61 : decode cX6_goesLeaf 61 = .ok (.iconst 1, 1) := by decide +kernel
theorem dX6_goesLeaf_62 : decode cX6_goesLeaf 62 = .ok (.if_icmp .ne 17, 3) := by decide +kernel
theorem dX6_goesLeaf_65 : decode cX6_goesLeaf 65 = .ok (.aload_n 0, 1) := by decide +kernel
theorem dX6_goesLeaf_66 : decode cX6_goesLeaf 66 = .ok (.getfield 19, 3) := by decide +kernel
theorem dX6_goesLeaf_69 : decode cX6_goesLeaf 69 = .ok (.iload_n 1, 1) := by decide +kernel
theorem dX6_goesLeaf_70 : decode cX6_goesLeaf 70 = .ok (.iaload, 1) := by decide +kernel
theorem dX6_goesLeaf_71 : decode cX6_goesLeaf 71 = .ok (.iload_n 2, 1) := by decide +kernel
theorem dX6_goesLeaf_72 : decode cX6_goesLeaf 72 = .ok (.if_icmp .ne 7, 3) := by decide +kernel
theorem dX6_goesLeaf_75 : decode cX6_goesLeaf 75 = .ok (.lconst 1, 1) := by decide +kernel
theorem dX6_goesLeaf_76 : decode cX6_goesLeaf 76 = .ok (.goto 4, 3) := by decide +kernel
theorem dX6_goesLeaf_79 : decode cX6_goesLeaf 79 = .ok (.lconst 0, 1) := by decide +kernel
theorem dX6_goesLeaf_80 : decode cX6_goesLeaf 80 = .ok (.lastore, 1) := by decide +kernel
theorem dX6_goesLeaf_81 : decode cX6_goesLeaf 81 = .ok (.iinc 2 1, 3) := by decide +kernel
theorem dX6_goesLeaf_84 : decode cX6_goesLeaf 84 = .ok (.goto (-45), 3) := by decide +kernel
theorem dX6_goesLeaf_87 : decode cX6_goesLeaf 87 = .ok (.iconst 0, 1) := by decide +kernel
theorem dX6_goesLeaf_88 : decode cX6_goesLeaf 88 = .ok (.istore_n 2, 1) := by decide +kernel
theorem dX6_goesLeaf_89 : decode cX6_goesLeaf 89 = .ok (.iload_n 2, 1) := by decide +kernel
theorem dX6_goesLeaf_90 : decode cX6_goesLeaf 90 = .ok (.bipush 36, 2) := by decide +kernel
theorem dX6_goesLeaf_92 : decode cX6_goesLeaf 92 = .ok (.if_icmp .ge 21, 3) := by decide +kernel
theorem dX6_goesLeaf_95 : decode cX6_goesLeaf 95 = .ok (.aload_n 0, 1) := by decide +kernel
theorem dX6_goesLeaf_96 : decode cX6_goesLeaf 96 = .ok (.getfield 78, 3) := by decide +kernel
theorem dX6_goesLeaf_99 : decode cX6_goesLeaf 99 = .ok (.bipush 36, 2) := by decide +kernel
theorem dX6_goesLeaf_101 : decode cX6_goesLeaf 101 = .ok (.iload_n 1, 1) := by decide +kernel
theorem dX6_goesLeaf_102 : decode cX6_goesLeaf 102 = .ok (.imul, 1) := by decide +kernel
theorem dX6_goesLeaf_103 : decode cX6_goesLeaf 103 = .ok (.iload_n 2, 1) := by decide +kernel
theorem dX6_goesLeaf_104 : decode cX6_goesLeaf 104 = .ok (.iadd, 1) := by decide +kernel
theorem dX6_goesLeaf_105 : decode cX6_goesLeaf 105 = .ok (.lconst 0, 1) := by decide +kernel
theorem dX6_goesLeaf_106 : decode cX6_goesLeaf 106 = .ok (.lastore, 1) := by decide +kernel
theorem dX6_goesLeaf_107 : decode cX6_goesLeaf 107 = .ok (.iinc 2 1, 3) := by decide +kernel
theorem dX6_goesLeaf_110 : decode cX6_goesLeaf 110 = .ok (.goto (-21), 3) := by decide +kernel
theorem dX6_goesLeaf_113 : decode cX6_goesLeaf 113 = .ok (.return_, 1) := by decide +kernel
theorem dX6_goesOne_0 : decode cX6_goesOne 0 = .ok (.aload_n 0, 1) := by decide +kernel
theorem dX6_goesOne_1 : decode cX6_goesOne 1 = .ok (.getfield 16, 3) := by decide +kernel
theorem dX6_goesOne_4 : decode cX6_goesOne 4 = .ok (.iload_n 1, 1) := by decide +kernel
theorem dX6_goesOne_5 : decode cX6_goesOne 5 = .ok (.iaload, 1) := by decide +kernel
theorem dX6_goesOne_6 : decode cX6_goesOne 6 = .ok (.bipush 110, 2) := by decide +kernel
theorem dX6_goesOne_8 : decode cX6_goesOne 8 = .ok (.if_icmp .ne 7, 3) := by decide +kernel
theorem dX6_goesOne_11 : decode cX6_goesOne 11 = .ok (.iconst 1, 1) := by decide +kernel
theorem dX6_goesOne_12 : decode cX6_goesOne 12 = .ok (.goto 4, 3) := by decide +kernel
theorem dX6_goesOne_15 : decode cX6_goesOne 15 = .ok (.iconst 0, 1) := by decide +kernel
theorem dX6_goesOne_16 : decode cX6_goesOne 16 = .ok (.istore_n 3, 1) := by decide +kernel
theorem dX6_goesOne_17 : decode cX6_goesOne 17 = .ok (.aload_n 0, 1) := by decide +kernel
theorem dX6_goesOne_18 : decode cX6_goesOne 18 = .ok (.getfield 19, 3) := by decide +kernel
theorem dX6_goesOne_21 : decode cX6_goesOne 21 = .ok (.iload_n 1, 1) := by decide +kernel
theorem dX6_goesOne_22 : decode cX6_goesOne 22 = .ok (.iaload, 1) := by decide +kernel
theorem dX6_goesOne_23 : decode cX6_goesOne 23 = .ok (.istore 4, 2) := by decide +kernel
theorem dX6_goesOne_25 : decode cX6_goesOne 25 = .ok (.aload_n 0, 1) := by decide +kernel
theorem dX6_goesOne_26 : decode cX6_goesOne 26 = .ok (.getfield 72, 3) := by decide +kernel
theorem dX6_goesOne_29 : decode cX6_goesOne 29 = .ok (.iload_n 2, 1) := by decide +kernel
theorem dX6_goesOne_30 : decode cX6_goesOne 30 = .ok (.laload, 1) := by decide +kernel
theorem dX6_goesOne_31 : decode cX6_goesOne 31 = .ok (.lstore 5, 2) := by decide +kernel
theorem dX6_goesOne_33 : decode cX6_goesOne 33 = .ok (.iload_n 3, 1) := by decide +kernel
theorem dX6_goesOne_34 : decode cX6_goesOne 34 = .ok (.ifCond .eq 9, 3) := by decide +kernel
theorem dX6_goesOne_37 : decode cX6_goesOne 37 = .ok (.ldc2_w 220, 3) := by decide +kernel
theorem dX6_goesOne_40 : decode cX6_goesOne 40 = .ok (.goto 25, 3) := by decide +kernel
theorem dX6_goesOne_43 : decode cX6_goesOne 43 = .ok (.iload 4, 2) := by decide +kernel
theorem dX6_goesOne_45 : decode cX6_goesOne 45 = .ok (.ifCond .ne 7, 3) := by decide +kernel
theorem dX6_goesOne_48 : decode cX6_goesOne 48 = .ok (.lconst 0, 1) := by decide +kernel
theorem dX6_goesOne_49 : decode cX6_goesOne 49 = .ok (.goto 16, 3) := by decide +kernel
theorem dX6_goesOne_52 : decode cX6_goesOne 52 = .ok (.iload 4, 2) := by decide +kernel
theorem dX6_goesOne_54 : decode cX6_goesOne 54 = .ok (.i2l, 1) := by decide +kernel
theorem dX6_goesOne_55 : decode cX6_goesOne 55 = .ok (.lload 5, 2) := by decide +kernel
theorem dX6_goesOne_57 : decode cX6_goesOne 57 = .ok (.iload 4, 2) := by decide +kernel
theorem dX6_goesOne_59 : decode cX6_goesOne 59 = .ok (.iconst 1, 1) := by decide +kernel
theorem dX6_goesOne_60 : decode cX6_goesOne 60 = .ok (.isub, 1) := by decide +kernel
theorem dX6_goesOne_61 : decode cX6_goesOne 61 = .ok (.invokestatic 222, 3) := by decide +kernel
theorem dX6_goesOne_64 : decode cX6_goesOne 64 = .ok (.lmul, 1) := by decide +kernel
theorem dX6_goesOne_65 : decode cX6_goesOne 65 = .ok (.lstore 7, 2) := by decide +kernel
theorem dX6_goesOne_67 : decode cX6_goesOne 67 = .ok (.iload_n 3, 1) := by decide +kernel
theorem dX6_goesOne_68 : decode cX6_goesOne 68 = .ok (.ifCond .ne 9, 3) := by decide +kernel
theorem dX6_goesOne_71 : decode cX6_goesOne 71 = .ok (.iload 4, 2) := by decide +kernel
theorem dX6_goesOne_73 : decode cX6_goesOne 73 = .ok (.iconst 2, 1) := by decide +kernel
theorem dX6_goesOne_74 : decode cX6_goesOne 74 = .ok (.if_icmp .ge 7, 3) := by decide +kernel
theorem dX6_goesOne_77 : decode cX6_goesOne 77 = .ok (.lconst 0, 1) := by decide +kernel
theorem dX6_goesOne_78 : decode cX6_goesOne 78 = .ok (.goto 22, 3) := by decide +kernel
theorem dX6_goesOne_81 : decode cX6_goesOne 81 = .ok (.iload 4, 2) := by decide +kernel
theorem dX6_goesOne_83 : decode cX6_goesOne 83 = .ok (.i2l, 1) := by decide +kernel
theorem dX6_goesOne_84 : decode cX6_goesOne 84 = .ok (.iload 4, 2) := by decide +kernel
theorem dX6_goesOne_86 : decode cX6_goesOne 86 = .ok (.iconst 1, 1) := by decide +kernel
theorem dX6_goesOne_87 : decode cX6_goesOne 87 = .ok (.isub, 1) := by decide +kernel
theorem dX6_goesOne_88 : decode cX6_goesOne 88 = .ok (.i2l, 1) := by decide +kernel
theorem dX6_goesOne_89 : decode cX6_goesOne 89 = .ok (.lmul, 1) := by decide +kernel
theorem dX6_goesOne_90 : decode cX6_goesOne 90 = .ok (.lload 5, 2) := by decide +kernel
theorem dX6_goesOne_92 : decode cX6_goesOne 92 = .ok (.iload 4, 2) := by decide +kernel
theorem dX6_goesOne_94 : decode cX6_goesOne 94 = .ok (.iconst 2, 1) := by decide +kernel
theorem dX6_goesOne_95 : decode cX6_goesOne 95 = .ok (.isub, 1) := by decide +kernel
theorem dX6_goesOne_96 : decode cX6_goesOne 96 = .ok (.invokestatic 222, 3) := by decide +kernel
theorem dX6_goesOne_99 : decode cX6_goesOne 99 = .ok (.lmul, 1) := by decide +kernel
theorem dX6_goesOne_100 : decode cX6_goesOne 100 = .ok (.lstore 9, 2) := by decide +kernel
theorem dX6_goesOne_102 : decode cX6_goesOne 102 = .ok (.aload_n 0, 1) := by decide +kernel
theorem dX6_goesOne_103 : decode cX6_goesOne 103 = .ok (.getfield 72, 3) := by decide +kernel
theorem dX6_goesOne_106 : decode cX6_goesOne 106 = .ok (.iload_n 1, 1) := by decide +kernel
theorem dX6_goesOne_107 : decode cX6_goesOne 107 = .ok (.iload_n 3, 1) := by decide +kernel
theorem dX6_goesOne_108 : decode cX6_goesOne 108 = .ok (.ifCond .eq 9, 3) := by decide +kernel
theorem dX6_goesOne_111 : decode cX6_goesOne 111 = .ok (.lload 5, 2) := by decide +kernel
theorem dX6_goesOne_113 : decode cX6_goesOne 113 = .ok (.lneg, 1) := by decide +kernel
theorem dX6_goesOne_114 : decode cX6_goesOne 114 = .ok (.goto 10, 3) := by decide +kernel
theorem dX6_goesOne_117 : decode cX6_goesOne 117 = .ok (.lload 5, 2) := by decide +kernel
theorem dX6_goesOne_119 : decode cX6_goesOne 119 = .ok (.iload 4, 2) := by decide +kernel
theorem dX6_goesOne_121 : decode cX6_goesOne 121 = .ok (.invokestatic 222, 3) := by decide +kernel
theorem dX6_goesOne_124 : decode cX6_goesOne 124 = .ok (.lastore, 1) := by decide +kernel
theorem dX6_goesOne_125 : decode cX6_goesOne 125 = .ok (.iconst 0, 1) := by decide +kernel
theorem dX6_goesOne_126 : decode cX6_goesOne 126 = .ok (.istore 11, 2) := by decide +kernel
theorem dX6_goesOne_128 : decode cX6_goesOne 128 = .ok (.iload 11, 2) := by decide +kernel
theorem dX6_goesOne_130 : decode cX6_goesOne 130 = .ok (.bipush 6, 2) := by decide +kernel
theorem dX6_goesOne_132 : decode cX6_goesOne 132 = .ok (.if_icmp .ge 36, 3) := by decide +kernel
theorem dX6_goesOne_135 : decode cX6_goesOne 135 = .ok (.aload_n 0, 1) := by decide +kernel
theorem dX6_goesOne_136 : decode cX6_goesOne 136 = .ok (.getfield 75, 3) := by decide +kernel
theorem dX6_goesOne_139 : decode cX6_goesOne 139 = .ok (.bipush 6, 2) := by decide +kernel
theorem dX6_goesOne_141 : decode cX6_goesOne 141 = .ok (.iload_n 1, 1) := by decide +kernel
theorem dX6_goesOne_142 : decode cX6_goesOne 142 = .ok (.imul, 1) := by decide +kernel
theorem dX6_goesOne_143 : decode cX6_goesOne 143 = .ok (.iload 11, 2) := by decide +kernel
theorem dX6_goesOne_145 : decode cX6_goesOne 145 = .ok (.iadd, 1) := by decide +kernel
theorem dX6_goesOne_146 : decode cX6_goesOne 146 = .ok (.lload 7, 2) := by decide +kernel
theorem dX6_goesOne_148 : decode cX6_goesOne 148 = .ok (.aload_n 0, 1) := by decide +kernel
theorem dX6_goesOne_149 : decode cX6_goesOne 149 = .ok (.getfield 75, 3) := by decide +kernel
theorem dX6_goesOne_152 : decode cX6_goesOne 152 = .ok (.bipush 6, 2) := by decide +kernel
theorem dX6_goesOne_154 : decode cX6_goesOne 154 = .ok (.iload_n 2, 1) := by decide +kernel
theorem dX6_goesOne_155 : decode cX6_goesOne 155 = .ok (.imul, 1) := by decide +kernel
theorem dX6_goesOne_156 : decode cX6_goesOne 156 = .ok (.iload 11, 2) := by decide +kernel
theorem dX6_goesOne_158 : decode cX6_goesOne 158 = .ok (.iadd, 1) := by decide +kernel
theorem dX6_goesOne_159 : decode cX6_goesOne 159 = .ok (.laload, 1) := by decide +kernel
theorem dX6_goesOne_160 : decode cX6_goesOne 160 = .ok (.lmul, 1) := by decide +kernel
theorem dX6_goesOne_161 : decode cX6_goesOne 161 = .ok (.lastore, 1) := by decide +kernel
theorem dX6_goesOne_162 : decode cX6_goesOne 162 = .ok (.iinc 11 1, 3) := by decide +kernel
theorem dX6_goesOne_165 : decode cX6_goesOne 165 = .ok (.goto (-37), 3) := by decide +kernel
theorem dX6_goesOne_168 : decode cX6_goesOne 168 = .ok (.iconst 0, 1) := by decide +kernel
theorem dX6_goesOne_169 : decode cX6_goesOne 169 = .ok (.istore 11, 2) := by decide +kernel
theorem dX6_goesOne_171 : decode cX6_goesOne 171 = .ok (.iload 11, 2) := by decide +kernel
theorem dX6_goesOne_173 : decode cX6_goesOne 173 = .ok (.bipush 36, 2) := by decide +kernel
theorem dX6_goesOne_175 : decode cX6_goesOne 175 = .ok (.if_icmp .ge 71, 3) := by decide +kernel
theorem dX6_goesOne_178 : decode cX6_goesOne 178 = .ok (.aload_n 0, 1) := by decide +kernel
theorem dX6_goesOne_179 : decode cX6_goesOne 179 = .ok (.getfield 78, 3) := by decide +kernel
theorem dX6_goesOne_182 : decode cX6_goesOne 182 = .ok (.bipush 36, 2) := by decide +kernel
theorem dX6_goesOne_184 : decode cX6_goesOne 184 = .ok (.iload_n 1, 1) := by decide +kernel
theorem dX6_goesOne_185 : decode cX6_goesOne 185 = .ok (.imul, 1) := by decide +kernel
theorem dX6_goesOne_186 : decode cX6_goesOne 186 = .ok (.iload 11, 2) := by decide +kernel
theorem dX6_goesOne_188 : decode cX6_goesOne 188 = .ok (.iadd, 1) := by decide +kernel
theorem dX6_goesOne_189 : decode cX6_goesOne 189 = .ok (.lload 9, 2) := by decide +kernel
theorem dX6_goesOne_191 : decode cX6_goesOne 191 = .ok (.aload_n 0, 1) := by decide +kernel
theorem dX6_goesOne_192 : decode cX6_goesOne 192 = .ok (.getfield 75, 3) := by decide +kernel
theorem dX6_goesOne_195 : decode cX6_goesOne 195 = .ok (.bipush 6, 2) := by decide +kernel
theorem dX6_goesOne_197 : decode cX6_goesOne 197 = .ok (.iload_n 2, 1) := by decide +kernel
theorem dX6_goesOne_198 : decode cX6_goesOne 198 = .ok (.imul, 1) := by decide +kernel
theorem dX6_goesOne_199 : decode cX6_goesOne 199 = .ok (.iload 11, 2) := by decide +kernel
theorem dX6_goesOne_201 : decode cX6_goesOne 201 = .ok (.bipush 6, 2) := by decide +kernel
theorem dX6_goesOne_203 : decode cX6_goesOne 203 = .ok (.idiv, 1) := by decide +kernel
theorem dX6_goesOne_204 : decode cX6_goesOne 204 = .ok (.iadd, 1) := by decide +kernel
theorem dX6_goesOne_205 : decode cX6_goesOne 205 = .ok (.laload, 1) := by decide +kernel
theorem dX6_goesOne_206 : decode cX6_goesOne 206 = .ok (.lmul, 1) := by decide +kernel
theorem dX6_goesOne_207 : decode cX6_goesOne 207 = .ok (.aload_n 0, 1) := by decide +kernel
theorem dX6_goesOne_208 : decode cX6_goesOne 208 = .ok (.getfield 75, 3) := by decide +kernel
theorem dX6_goesOne_211 : decode cX6_goesOne 211 = .ok (.bipush 6, 2) := by decide +kernel
theorem dX6_goesOne_213 : decode cX6_goesOne 213 = .ok (.iload_n 2, 1) := by decide +kernel
theorem dX6_goesOne_214 : decode cX6_goesOne 214 = .ok (.imul, 1) := by decide +kernel
theorem dX6_goesOne_215 : decode cX6_goesOne 215 = .ok (.iload 11, 2) := by decide +kernel
theorem dX6_goesOne_217 : decode cX6_goesOne 217 = .ok (.bipush 6, 2) := by decide +kernel
theorem dX6_goesOne_219 : decode cX6_goesOne 219 = .ok (.irem, 1) := by decide +kernel
theorem dX6_goesOne_220 : decode cX6_goesOne 220 = .ok (.iadd, 1) := by decide +kernel
theorem dX6_goesOne_221 : decode cX6_goesOne 221 = .ok (.laload, 1) := by decide +kernel
theorem dX6_goesOne_222 : decode cX6_goesOne 222 = .ok (.lmul, 1) := by decide +kernel
theorem dX6_goesOne_223 : decode cX6_goesOne 223 = .ok (.lload 7, 2) := by decide +kernel
theorem dX6_goesOne_225 : decode cX6_goesOne 225 = .ok (.aload_n 0, 1) := by decide +kernel
theorem dX6_goesOne_226 : decode cX6_goesOne 226 = .ok (.getfield 78, 3) := by decide +kernel
theorem dX6_goesOne_229 : decode cX6_goesOne 229 = .ok (.bipush 36, 2) := by decide +kernel
theorem dX6_goesOne_231 : decode cX6_goesOne 231 = .ok (.iload_n 2, 1) := by decide +kernel
theorem dX6_goesOne_232 : decode cX6_goesOne 232 = .ok (.imul, 1) := by decide +kernel
theorem dX6_goesOne_233 : decode cX6_goesOne 233 = .ok (.iload 11, 2) := by decide +kernel
theorem dX6_goesOne_235 : decode cX6_goesOne 235 = .ok (.iadd, 1) := by decide +kernel
theorem dX6_goesOne_236 : decode cX6_goesOne 236 = .ok (.laload, 1) := by decide +kernel
theorem dX6_goesOne_237 : decode cX6_goesOne 237 = .ok (.lmul, 1) := by decide +kernel
theorem dX6_goesOne_238 : decode cX6_goesOne 238 = .ok (.ladd, 1) := by decide +kernel
theorem dX6_goesOne_239 : decode cX6_goesOne 239 = .ok (.lastore, 1) := by decide +kernel
theorem dX6_goesOne_240 : decode cX6_goesOne 240 = .ok (.iinc 11 1, 3) := by decide +kernel
theorem dX6_goesOne_243 : decode cX6_goesOne 243 = .ok (.goto (-72), 3) := by decide +kernel
theorem dX6_goesOne_246 : decode cX6_goesOne 246 = .ok (.return_, 1) := by decide +kernel
theorem dX6_goesTwo_0 : decode cX6_goesTwo 0 = .ok (.aload_n 0, 1) := by decide +kernel
theorem dX6_goesTwo_1 : decode cX6_goesTwo 1 = .ok (.getfield 16, 3) := by decide +kernel
theorem dX6_goesTwo_4 : decode cX6_goesTwo 4 = .ok (.iload_n 1, 1) := by decide +kernel
theorem dX6_goesTwo_5 : decode cX6_goesTwo 5 = .ok (.iaload, 1) := by decide +kernel
theorem dX6_goesTwo_6 : decode cX6_goesTwo 6 = .ok (.bipush 42, 2) := by decide +kernel
theorem dX6_goesTwo_8 : decode cX6_goesTwo 8 = .ok (.if_icmp .ne 7, 3) := by decide +kernel
theorem dX6_goesTwo_11 : decode cX6_goesTwo 11 = .ok (.iconst 1, 1) := by decide +kernel
theorem dX6_goesTwo_12 : decode cX6_goesTwo 12 = .ok (.goto 4, 3) := by decide +kernel
theorem dX6_goesTwo_15 : decode cX6_goesTwo 15 = .ok (.iconst 0, 1) := by decide +kernel
theorem dX6_goesTwo_16 : decode cX6_goesTwo 16 = .ok (.istore 4, 2) := by decide +kernel
theorem dX6_goesTwo_18 : decode cX6_goesTwo 18 = .ok (.iload 4, 2) := by decide +kernel
theorem dX6_goesTwo_20 : decode cX6_goesTwo 20 = .ok (.ifCond .eq 12, 3) := by decide +kernel
theorem dX6_goesTwo_23 : decode cX6_goesTwo 23 = .ok (.aload_n 0, 1) := by decide +kernel
theorem dX6_goesTwo_24 : decode cX6_goesTwo 24 = .ok (.getfield 72, 3) := by decide +kernel
theorem dX6_goesTwo_27 : decode cX6_goesTwo 27 = .ok (.iload_n 3, 1) := by decide +kernel
theorem dX6_goesTwo_28 : decode cX6_goesTwo 28 = .ok (.laload, 1) := by decide +kernel
theorem dX6_goesTwo_29 : decode cX6_goesTwo 29 = .ok (.goto 4, 3) := by decide +kernel
theorem dX6_goesTwo_32 : decode cX6_goesTwo 32 = .ok (.lconst 1, 1) := by decide +kernel
theorem dX6_goesTwo_33 : decode cX6_goesTwo 33 = .ok (.lstore 5, 2) := by decide +kernel
theorem dX6_goesTwo_35 : decode cX6_goesTwo 35 = .ok (.iload 4, 2) := by decide +kernel
theorem dX6_goesTwo_37 : decode cX6_goesTwo 37 = .ok (.ifCond .eq 12, 3) := by decide +kernel
theorem dX6_goesTwo_40 : decode cX6_goesTwo 40 = .ok (.aload_n 0, 1) := by decide +kernel
theorem dX6_goesTwo_41 : decode cX6_goesTwo 41 = .ok (.getfield 72, 3) := by decide +kernel
theorem dX6_goesTwo_44 : decode cX6_goesTwo 44 = .ok (.iload_n 2, 1) := by decide +kernel
theorem dX6_goesTwo_45 : decode cX6_goesTwo 45 = .ok (.laload, 1) := by decide +kernel
theorem dX6_goesTwo_46 : decode cX6_goesTwo 46 = .ok (.goto 21, 3) := by decide +kernel
theorem dX6_goesTwo_49 : decode cX6_goesTwo 49 = .ok (.aload_n 0, 1) := by decide +kernel
theorem dX6_goesTwo_50 : decode cX6_goesTwo 50 = .ok (.getfield 16, 3) := by decide +kernel
theorem dX6_goesTwo_53 : decode cX6_goesTwo 53 = .ok (.iload_n 1, 1) := by decide +kernel
theorem dX6_goesTwo_54 : decode cX6_goesTwo 54 = .ok (.iaload, 1) := by decide +kernel
theorem dX6_goesTwo_55 : decode cX6_goesTwo 55 = .ok (.bipush 45, 2) := by decide +kernel
theorem dX6_goesTwo_57 : decode cX6_goesTwo 57 = .ok (.if_icmp .ne 9, 3) := by decide +kernel
theorem dX6_goesTwo_60 : decode cX6_goesTwo 60 = .ok (.ldc2_w 220, 3) := by decide +kernel
theorem dX6_goesTwo_63 : decode cX6_goesTwo 63 = .ok (.goto 4, 3) := by decide +kernel
theorem dX6_goesTwo_66 : decode cX6_goesTwo 66 = .ok (.lconst 1, 1) := by decide +kernel
theorem dX6_goesTwo_67 : decode cX6_goesTwo 67 = .ok (.lstore 7, 2) := by decide +kernel
theorem dX6_goesTwo_69 : decode cX6_goesTwo 69 = .ok (.aload_n 0, 1) := by decide +kernel
theorem dX6_goesTwo_70 : decode cX6_goesTwo 70 = .ok (.getfield 72, 3) := by decide +kernel
theorem dX6_goesTwo_73 : decode cX6_goesTwo 73 = .ok (.iload_n 1, 1) := by decide +kernel
theorem dX6_goesTwo_74 : decode cX6_goesTwo 74 = .ok (.iload 4, 2) := by decide +kernel
theorem dX6_goesTwo_76 : decode cX6_goesTwo 76 = .ok (.ifCond .eq 19, 3) := by decide +kernel
theorem dX6_goesTwo_79 : decode cX6_goesTwo 79 = .ok (.aload_n 0, 1) := by decide +kernel
theorem dX6_goesTwo_80 : decode cX6_goesTwo 80 = .ok (.getfield 72, 3) := by decide +kernel
theorem dX6_goesTwo_83 : decode cX6_goesTwo 83 = .ok (.iload_n 2, 1) := by decide +kernel
theorem dX6_goesTwo_84 : decode cX6_goesTwo 84 = .ok (.laload, 1) := by decide +kernel
theorem dX6_goesTwo_85 : decode cX6_goesTwo 85 = .ok (.aload_n 0, 1) := by decide +kernel
theorem dX6_goesTwo_86 : decode cX6_goesTwo 86 = .ok (.getfield 72, 3) := by decide +kernel
theorem dX6_goesTwo_89 : decode cX6_goesTwo 89 = .ok (.iload_n 3, 1) := by decide +kernel
theorem dX6_goesTwo_90 : decode cX6_goesTwo 90 = .ok (.laload, 1) := by decide +kernel
theorem dX6_goesTwo_91 : decode cX6_goesTwo 91 = .ok (.lmul, 1) := by decide +kernel
theorem dX6_goesTwo_92 : decode cX6_goesTwo 92 = .ok (.goto 19, 3) := by decide +kernel
theorem dX6_goesTwo_95 : decode cX6_goesTwo 95 = .ok (.aload_n 0, 1) := by decide +kernel
theorem dX6_goesTwo_96 : decode cX6_goesTwo 96 = .ok (.getfield 72, 3) := by decide +kernel
theorem dX6_goesTwo_99 : decode cX6_goesTwo 99 = .ok (.iload_n 2, 1) := by decide +kernel
theorem dX6_goesTwo_100 : decode cX6_goesTwo 100 = .ok (.laload, 1) := by decide +kernel
theorem dX6_goesTwo_101 : decode cX6_goesTwo 101 = .ok (.lload 7, 2) := by decide +kernel
theorem dX6_goesTwo_103 : decode cX6_goesTwo 103 = .ok (.aload_n 0, 1) := by decide +kernel
theorem dX6_goesTwo_104 : decode cX6_goesTwo 104 = .ok (.getfield 72, 3) := by decide +kernel
theorem dX6_goesTwo_107 : decode cX6_goesTwo 107 = .ok (.iload_n 3, 1) := by decide +kernel
theorem dX6_goesTwo_108 : decode cX6_goesTwo 108 = .ok (.laload, 1) := by decide +kernel
theorem dX6_goesTwo_109 : decode cX6_goesTwo 109 = .ok (.lmul, 1) := by decide +kernel
theorem dX6_goesTwo_110 : decode cX6_goesTwo 110 = .ok (.ladd, 1) := by decide +kernel
theorem dX6_goesTwo_111 : decode cX6_goesTwo 111 = .ok (.lastore, 1) := by decide +kernel
theorem dX6_goesTwo_112 : decode cX6_goesTwo 112 = .ok (.iconst 0, 1) := by decide +kernel
theorem dX6_goesTwo_113 : decode cX6_goesTwo 113 = .ok (.istore 9, 2) := by decide +kernel
theorem dX6_goesTwo_115 : decode cX6_goesTwo 115 = .ok (.iload 9, 2) := by decide +kernel
theorem dX6_goesTwo_117 : decode cX6_goesTwo 117 = .ok (.bipush 6, 2) := by decide +kernel
theorem dX6_goesTwo_119 : decode cX6_goesTwo 119 = .ok (.if_icmp .ge 52, 3) := by decide +kernel
theorem dX6_goesTwo_122 : decode cX6_goesTwo 122 = .ok (.aload_n 0, 1) := by decide +kernel
theorem dX6_goesTwo_123 : decode cX6_goesTwo 123 = .ok (.getfield 75, 3) := by decide +kernel
theorem dX6_goesTwo_126 : decode cX6_goesTwo 126 = .ok (.bipush 6, 2) := by decide +kernel
theorem dX6_goesTwo_128 : decode cX6_goesTwo 128 = .ok (.iload_n 1, 1) := by decide +kernel
theorem dX6_goesTwo_129 : decode cX6_goesTwo 129 = .ok (.imul, 1) := by decide +kernel
theorem dX6_goesTwo_130 : decode cX6_goesTwo 130 = .ok (.iload 9, 2) := by decide +kernel
theorem dX6_goesTwo_132 : decode cX6_goesTwo 132 = .ok (.iadd, 1) := by decide +kernel
theorem dX6_goesTwo_133 : decode cX6_goesTwo 133 = .ok (.lload 5, 2) := by decide +kernel
theorem dX6_goesTwo_135 : decode cX6_goesTwo 135 = .ok (.aload_n 0, 1) := by decide +kernel
theorem dX6_goesTwo_136 : decode cX6_goesTwo 136 = .ok (.getfield 75, 3) := by decide +kernel
theorem dX6_goesTwo_139 : decode cX6_goesTwo 139 = .ok (.bipush 6, 2) := by decide +kernel
theorem dX6_goesTwo_141 : decode cX6_goesTwo 141 = .ok (.iload_n 2, 1) := by decide +kernel
theorem dX6_goesTwo_142 : decode cX6_goesTwo 142 = .ok (.imul, 1) := by decide +kernel
theorem dX6_goesTwo_143 : decode cX6_goesTwo 143 = .ok (.iload 9, 2) := by decide +kernel
theorem dX6_goesTwo_145 : decode cX6_goesTwo 145 = .ok (.iadd, 1) := by decide +kernel
theorem dX6_goesTwo_146 : decode cX6_goesTwo 146 = .ok (.laload, 1) := by decide +kernel
theorem dX6_goesTwo_147 : decode cX6_goesTwo 147 = .ok (.lmul, 1) := by decide +kernel
theorem dX6_goesTwo_148 : decode cX6_goesTwo 148 = .ok (.lload 7, 2) := by decide +kernel
theorem dX6_goesTwo_150 : decode cX6_goesTwo 150 = .ok (.aload_n 0, 1) := by decide +kernel
theorem dX6_goesTwo_151 : decode cX6_goesTwo 151 = .ok (.getfield 75, 3) := by decide +kernel
theorem dX6_goesTwo_154 : decode cX6_goesTwo 154 = .ok (.bipush 6, 2) := by decide +kernel
theorem dX6_goesTwo_156 : decode cX6_goesTwo 156 = .ok (.iload_n 3, 1) := by decide +kernel
theorem dX6_goesTwo_157 : decode cX6_goesTwo 157 = .ok (.imul, 1) := by decide +kernel
theorem dX6_goesTwo_158 : decode cX6_goesTwo 158 = .ok (.iload 9, 2) := by decide +kernel
theorem dX6_goesTwo_160 : decode cX6_goesTwo 160 = .ok (.iadd, 1) := by decide +kernel
theorem dX6_goesTwo_161 : decode cX6_goesTwo 161 = .ok (.laload, 1) := by decide +kernel
theorem dX6_goesTwo_162 : decode cX6_goesTwo 162 = .ok (.lmul, 1) := by decide +kernel
theorem dX6_goesTwo_163 : decode cX6_goesTwo 163 = .ok (.ladd, 1) := by decide +kernel
theorem dX6_goesTwo_164 : decode cX6_goesTwo 164 = .ok (.lastore, 1) := by decide +kernel
theorem dX6_goesTwo_165 : decode cX6_goesTwo 165 = .ok (.iinc 9 1, 3) := by decide +kernel
theorem dX6_goesTwo_168 : decode cX6_goesTwo 168 = .ok (.goto (-53), 3) := by decide +kernel
theorem dX6_goesTwo_171 : decode cX6_goesTwo 171 = .ok (.iconst 0, 1) := by decide +kernel
theorem dX6_goesTwo_172 : decode cX6_goesTwo 172 = .ok (.istore 9, 2) := by decide +kernel
theorem dX6_goesTwo_174 : decode cX6_goesTwo 174 = .ok (.iload 9, 2) := by decide +kernel
theorem dX6_goesTwo_176 : decode cX6_goesTwo 176 = .ok (.bipush 36, 2) := by decide +kernel
theorem dX6_goesTwo_178 : decode cX6_goesTwo 178 = .ok (.if_icmp .ge 129, 3) := by decide +kernel
theorem dX6_goesTwo_181 : decode cX6_goesTwo 181 = .ok (.aload_n 0, 1) := by decide +kernel
theorem dX6_goesTwo_182 : decode cX6_goesTwo 182 = .ok (.getfield 75, 3) := by decide +kernel
theorem dX6_goesTwo_185 : decode cX6_goesTwo 185 = .ok (.bipush 6, 2) := by decide +kernel
theorem dX6_goesTwo_187 : decode cX6_goesTwo 187 = .ok (.iload_n 2, 1) := by decide +kernel
theorem dX6_goesTwo_188 : decode cX6_goesTwo 188 = .ok (.imul, 1) := by decide +kernel
theorem dX6_goesTwo_189 : decode cX6_goesTwo 189 = .ok (.iload 9, 2) := by decide +kernel
theorem dX6_goesTwo_191 : decode cX6_goesTwo 191 = .ok (.bipush 6, 2) := by decide +kernel
theorem dX6_goesTwo_193 : decode cX6_goesTwo 193 = .ok (.idiv, 1) := by decide +kernel
theorem dX6_goesTwo_194 : decode cX6_goesTwo 194 = .ok (.iadd, 1) := by decide +kernel
theorem dX6_goesTwo_195 : decode cX6_goesTwo 195 = .ok (.laload, 1) := by decide +kernel
theorem dX6_goesTwo_196 : decode cX6_goesTwo 196 = .ok (.aload_n 0, 1) := by decide +kernel
theorem dX6_goesTwo_197 : decode cX6_goesTwo 197 = .ok (.getfield 75, 3) := by decide +kernel
theorem dX6_goesTwo_200 : decode cX6_goesTwo 200 = .ok (.bipush 6, 2) := by decide +kernel
theorem dX6_goesTwo_202 : decode cX6_goesTwo 202 = .ok (.iload_n 3, 1) := by decide +kernel
theorem dX6_goesTwo_203 : decode cX6_goesTwo 203 = .ok (.imul, 1) := by decide +kernel
theorem dX6_goesTwo_204 : decode cX6_goesTwo 204 = .ok (.iload 9, 2) := by decide +kernel
theorem dX6_goesTwo_206 : decode cX6_goesTwo 206 = .ok (.bipush 6, 2) := by decide +kernel
theorem dX6_goesTwo_208 : decode cX6_goesTwo 208 = .ok (.irem, 1) := by decide +kernel
theorem dX6_goesTwo_209 : decode cX6_goesTwo 209 = .ok (.iadd, 1) := by decide +kernel
theorem dX6_goesTwo_210 : decode cX6_goesTwo 210 = .ok (.laload, 1) := by decide +kernel
theorem dX6_goesTwo_211 : decode cX6_goesTwo 211 = .ok (.lmul, 1) := by decide +kernel
theorem dX6_goesTwo_212 : decode cX6_goesTwo 212 = .ok (.aload_n 0, 1) := by decide +kernel
theorem dX6_goesTwo_213 : decode cX6_goesTwo 213 = .ok (.getfield 75, 3) := by decide +kernel
theorem dX6_goesTwo_216 : decode cX6_goesTwo 216 = .ok (.bipush 6, 2) := by decide +kernel
theorem dX6_goesTwo_218 : decode cX6_goesTwo 218 = .ok (.iload_n 2, 1) := by decide +kernel
theorem dX6_goesTwo_219 : decode cX6_goesTwo 219 = .ok (.imul, 1) := by decide +kernel
theorem dX6_goesTwo_220 : decode cX6_goesTwo 220 = .ok (.iload 9, 2) := by decide +kernel
theorem dX6_goesTwo_222 : decode cX6_goesTwo 222 = .ok (.bipush 6, 2) := by decide +kernel
theorem dX6_goesTwo_224 : decode cX6_goesTwo 224 = .ok (.irem, 1) := by decide +kernel
theorem dX6_goesTwo_225 : decode cX6_goesTwo 225 = .ok (.iadd, 1) := by decide +kernel
theorem dX6_goesTwo_226 : decode cX6_goesTwo 226 = .ok (.laload, 1) := by decide +kernel
theorem dX6_goesTwo_227 : decode cX6_goesTwo 227 = .ok (.aload_n 0, 1) := by decide +kernel
theorem dX6_goesTwo_228 : decode cX6_goesTwo 228 = .ok (.getfield 75, 3) := by decide +kernel
theorem dX6_goesTwo_231 : decode cX6_goesTwo 231 = .ok (.bipush 6, 2) := by decide +kernel
theorem dX6_goesTwo_233 : decode cX6_goesTwo 233 = .ok (.iload_n 3, 1) := by decide +kernel
theorem dX6_goesTwo_234 : decode cX6_goesTwo 234 = .ok (.imul, 1) := by decide +kernel
theorem dX6_goesTwo_235 : decode cX6_goesTwo 235 = .ok (.iload 9, 2) := by decide +kernel
theorem dX6_goesTwo_237 : decode cX6_goesTwo 237 = .ok (.bipush 6, 2) := by decide +kernel
theorem dX6_goesTwo_239 : decode cX6_goesTwo 239 = .ok (.idiv, 1) := by decide +kernel
theorem dX6_goesTwo_240 : decode cX6_goesTwo 240 = .ok (.iadd, 1) := by decide +kernel
theorem dX6_goesTwo_241 : decode cX6_goesTwo 241 = .ok (.laload, 1) := by decide +kernel
theorem dX6_goesTwo_242 : decode cX6_goesTwo 242 = .ok (.lmul, 1) := by decide +kernel
theorem dX6_goesTwo_243 : decode cX6_goesTwo 243 = .ok (.ladd, 1) := by decide +kernel
theorem dX6_goesTwo_244 : decode cX6_goesTwo 244 = .ok (.lstore 10, 2) := by decide +kernel
theorem dX6_goesTwo_246 : decode cX6_goesTwo 246 = .ok (.aload_n 0, 1) := by decide +kernel
theorem dX6_goesTwo_247 : decode cX6_goesTwo 247 = .ok (.getfield 78, 3) := by decide +kernel
theorem dX6_goesTwo_250 : decode cX6_goesTwo 250 = .ok (.bipush 36, 2) := by decide +kernel
theorem dX6_goesTwo_252 : decode cX6_goesTwo 252 = .ok (.iload_n 1, 1) := by decide +kernel
theorem dX6_goesTwo_253 : decode cX6_goesTwo 253 = .ok (.imul, 1) := by decide +kernel
theorem dX6_goesTwo_254 : decode cX6_goesTwo 254 = .ok (.iload 9, 2) := by decide +kernel
theorem dX6_goesTwo_256 : decode cX6_goesTwo 256 = .ok (.iadd, 1) := by decide +kernel
theorem dX6_goesTwo_257 : decode cX6_goesTwo 257 = .ok (.lload 5, 2) := by decide +kernel
theorem dX6_goesTwo_259 : decode cX6_goesTwo 259 = .ok (.aload_n 0, 1) := by decide +kernel
theorem dX6_goesTwo_260 : decode cX6_goesTwo 260 = .ok (.getfield 78, 3) := by decide +kernel
theorem dX6_goesTwo_263 : decode cX6_goesTwo 263 = .ok (.bipush 36, 2) := by decide +kernel
theorem dX6_goesTwo_265 : decode cX6_goesTwo 265 = .ok (.iload_n 2, 1) := by decide +kernel
theorem dX6_goesTwo_266 : decode cX6_goesTwo 266 = .ok (.imul, 1) := by decide +kernel
theorem dX6_goesTwo_267 : decode cX6_goesTwo 267 = .ok (.iload 9, 2) := by decide +kernel
theorem dX6_goesTwo_269 : decode cX6_goesTwo 269 = .ok (.iadd, 1) := by decide +kernel
theorem dX6_goesTwo_270 : decode cX6_goesTwo 270 = .ok (.laload, 1) := by decide +kernel
theorem dX6_goesTwo_271 : decode cX6_goesTwo 271 = .ok (.lmul, 1) := by decide +kernel
theorem dX6_goesTwo_272 : decode cX6_goesTwo 272 = .ok (.lload 7, 2) := by decide +kernel
theorem dX6_goesTwo_274 : decode cX6_goesTwo 274 = .ok (.aload_n 0, 1) := by decide +kernel
theorem dX6_goesTwo_275 : decode cX6_goesTwo 275 = .ok (.getfield 78, 3) := by decide +kernel
theorem dX6_goesTwo_278 : decode cX6_goesTwo 278 = .ok (.bipush 36, 2) := by decide +kernel
theorem dX6_goesTwo_280 : decode cX6_goesTwo 280 = .ok (.iload_n 3, 1) := by decide +kernel
theorem dX6_goesTwo_281 : decode cX6_goesTwo 281 = .ok (.imul, 1) := by decide +kernel
theorem dX6_goesTwo_282 : decode cX6_goesTwo 282 = .ok (.iload 9, 2) := by decide +kernel
theorem dX6_goesTwo_284 : decode cX6_goesTwo 284 = .ok (.iadd, 1) := by decide +kernel
theorem dX6_goesTwo_285 : decode cX6_goesTwo 285 = .ok (.laload, 1) := by decide +kernel
theorem dX6_goesTwo_286 : decode cX6_goesTwo 286 = .ok (.lmul, 1) := by decide +kernel
theorem dX6_goesTwo_287 : decode cX6_goesTwo 287 = .ok (.ladd, 1) := by decide +kernel
theorem dX6_goesTwo_288 : decode cX6_goesTwo 288 = .ok (.iload 4, 2) := by decide +kernel
theorem dX6_goesTwo_290 : decode cX6_goesTwo 290 = .ok (.ifCond .eq 8, 3) := by decide +kernel
theorem dX6_goesTwo_293 : decode cX6_goesTwo 293 = .ok (.lload 10, 2) := by decide +kernel
theorem dX6_goesTwo_295 : decode cX6_goesTwo 295 = .ok (.goto 4, 3) := by decide +kernel
theorem dX6_goesTwo_298 : decode cX6_goesTwo 298 = .ok (.lconst 0, 1) := by decide +kernel
theorem dX6_goesTwo_299 : decode cX6_goesTwo 299 = .ok (.ladd, 1) := by decide +kernel
theorem dX6_goesTwo_300 : decode cX6_goesTwo 300 = .ok (.lastore, 1) := by decide +kernel
theorem dX6_goesTwo_301 : decode cX6_goesTwo 301 = .ok (.iinc 9 1, 3) := by decide +kernel
theorem dX6_goesTwo_304 : decode cX6_goesTwo 304 = .ok (.goto (-130), 3) := by decide +kernel
theorem dX6_goesTwo_307 : decode cX6_goesTwo 307 = .ok (.return_, 1) := by decide +kernel
theorem dX6_rootOf_0 : decode cX6_rootOf 0 = .ok (.bipush 20, 2) := by decide +kernel
theorem dX6_rootOf_2 : decode cX6_rootOf 2 = .ok (.iload_n 1, 1) := by decide +kernel
theorem dX6_rootOf_3 : decode cX6_rootOf 3 = .ok (.imul, 1) := by decide +kernel
theorem dX6_rootOf_4 : decode cX6_rootOf 4 = .ok (.aload_n 0, 1) := by decide +kernel
theorem dX6_rootOf_5 : decode cX6_rootOf 5 = .ok (.getfield 13, 3) := by decide +kernel
theorem dX6_rootOf_8 : decode cX6_rootOf 8 = .ok (.iload_n 1, 1) := by decide +kernel
theorem dX6_rootOf_9 : decode cX6_rootOf 9 = .ok (.iaload, 1) := by decide +kernel
theorem dX6_rootOf_10 : decode cX6_rootOf 10 = .ok (.iadd, 1) := by decide +kernel
theorem dX6_rootOf_11 : decode cX6_rootOf 11 = .ok (.iconst 1, 1) := by decide +kernel
theorem dX6_rootOf_12 : decode cX6_rootOf 12 = .ok (.isub, 1) := by decide +kernel
theorem dX6_rootOf_13 : decode cX6_rootOf 13 = .ok (.ireturn, 1) := by decide +kernel
theorem dX6_goes_0 : decode cX6_goes 0 = .ok (.iconst 0, 1) := by decide +kernel
theorem dX6_goes_1 : decode cX6_goes 1 = .ok (.istore_n 1, 1) := by decide +kernel
theorem dX6_goes_2 : decode cX6_goes 2 = .ok (.iload_n 1, 1) := by decide +kernel
theorem dX6_goes_3 : decode cX6_goes 3 = .ok (.aload_n 0, 1) := by decide +kernel
theorem dX6_goes_4 : decode cX6_goes 4 = .ok (.getfield 199, 3) := by decide +kernel
theorem dX6_goes_7 : decode cX6_goes 7 = .ok (.if_icmp .ge 146, 3) := by decide +kernel
theorem dX6_goes_10 : decode cX6_goes 10 = .ok (.iconst 0, 1) := by decide +kernel
theorem dX6_goes_11 : decode cX6_goes 11 = .ok (.istore_n 2, 1) := by decide +kernel
theorem dX6_goes_12 : decode cX6_goes 12 = .ok (.iload_n 2, 1) := by decide +kernel
theorem dX6_goes_13 : decode cX6_goes 13 = .ok (.aload_n 0, 1) := by decide +kernel
theorem dX6_goes_14 : decode cX6_goes 14 = .ok (.getfield 13, 3) := by decide +kernel
theorem dX6_goes_17 : decode cX6_goes 17 = .ok (.iload_n 1, 1) := by decide +kernel
theorem dX6_goes_18 : decode cX6_goes 18 = .ok (.iaload, 1) := by decide +kernel
theorem dX6_goes_19 : decode cX6_goes 19 = .ok (.if_icmp .ge 128, 3) := by decide +kernel
theorem dX6_goes_22 : decode cX6_goes 22 = .ok (.bipush 20, 2) := by decide +kernel
theorem dX6_goes_24 : decode cX6_goes 24 = .ok (.iload_n 1, 1) := by decide +kernel
theorem dX6_goes_25 : decode cX6_goes 25 = .ok (.imul, 1) := by decide +kernel
theorem dX6_goes_26 : decode cX6_goes 26 = .ok (.iload_n 2, 1) := by decide +kernel
theorem dX6_goes_27 : decode cX6_goes 27 = .ok (.iadd, 1) := by decide +kernel
theorem dX6_goes_28 : decode cX6_goes 28 = .ok (.istore_n 3, 1) := by decide +kernel
theorem dX6_goes_29 : decode cX6_goes 29 = .ok (.aload_n 0, 1) := by decide +kernel
theorem dX6_goes_30 : decode cX6_goes 30 = .ok (.getfield 16, 3) := by decide +kernel
theorem dX6_goes_33 : decode cX6_goes 33 = .ok (.iload_n 3, 1) := by decide +kernel
theorem dX6_goes_34 : decode cX6_goes 34 = .ok (.iaload, 1) := by decide +kernel
theorem dX6_goes_35 : decode cX6_goes 35 = .ok (.ifCond .eq 13, 3) := by decide +kernel
theorem dX6_goes_38 : decode cX6_goes 38 = .ok (.aload_n 0, 1) := by decide +kernel
theorem dX6_goes_39 : decode cX6_goes 39 = .ok (.getfield 16, 3) := by decide +kernel
theorem dX6_goes_42 : decode cX6_goes 42 = .ok (.iload_n 3, 1) := by decide +kernel
theorem dX6_goes_43 : decode cX6_goes 43 = .ok (.iaload, 1) := by decide +kernel
theorem dX6_goes_44 : decode cX6_goes 44 = .ok (.iconst 1, 1) := by decide +kernel
theorem dX6_goes_45 : decode cX6_goes 45 = .ok (.if_icmp .ne 11, 3) := by decide +kernel
theorem dX6_goes_48 : decode cX6_goes 48 = .ok (.aload_n 0, 1) := by decide +kernel
theorem dX6_goes_49 : decode cX6_goes 49 = .ok (.iload_n 3, 1) := by decide +kernel
theorem dX6_goes_50 : decode cX6_goes 50 = .ok (.invokevirtual 226, 3) := by decide +kernel
theorem dX6_goes_53 : decode cX6_goes 53 = .ok (.goto 88, 3) := by decide +kernel
theorem dX6_goes_56 : decode cX6_goes 56 = .ok (.aload_n 0, 1) := by decide +kernel
theorem dX6_goes_57 : decode cX6_goes 57 = .ok (.getfield 16, 3) := by decide +kernel
theorem dX6_goes_60 : decode cX6_goes 60 = .ok (.iload_n 3, 1) := by decide +kernel
theorem dX6_goes_61 : decode cX6_goes 61 = .ok (.iaload, 1) := by decide +kernel
theorem dX6_goes_62 : decode cX6_goes 62 = .ok (.iconst 2, 1) := by decide +kernel
theorem dX6_goes_63 : decode cX6_goes 63 = .ok (.if_icmp .ne 21, 3) := by decide +kernel
theorem dX6_goes_66 : decode cX6_goes 66 = .ok (.aload_n 0, 1) := by decide +kernel
theorem dX6_goes_67 : decode cX6_goes 67 = .ok (.aload_n 0, 1) := by decide +kernel
theorem dX6_goes_68 : decode cX6_goes 68 = .ok (.aload_n 0, 1) := by decide +kernel
theorem dX6_goes_69 : decode cX6_goes 69 = .ok (.getfield 19, 3) := by decide +kernel
theorem dX6_goes_72 : decode cX6_goes 72 = .ok (.iload_n 3, 1) := by decide +kernel
theorem dX6_goes_73 : decode cX6_goes 73 = .ok (.iaload, 1) := by decide +kernel
theorem dX6_goes_74 : decode cX6_goes 74 = .ok (.invokevirtual 229, 3) := by decide +kernel
theorem dX6_goes_77 : decode cX6_goes 77 = .ok (.iload_n 3, 1) := by decide +kernel
theorem dX6_goes_78 : decode cX6_goes 78 = .ok (.invokevirtual 232, 3) := by decide +kernel
theorem dX6_goes_81 : decode cX6_goes 81 = .ok (.goto 60, 3) := by decide +kernel
theorem dX6_goes_84 : decode cX6_goes 84 = .ok (.aload_n 0, 1) := by decide +kernel
theorem dX6_goes_85 : decode cX6_goes 85 = .ok (.getfield 25, 3) := by decide +kernel
theorem dX6_goes_88 : decode cX6_goes 88 = .ok (.iload_n 3, 1) := by decide +kernel
theorem dX6_goes_89 : decode cX6_goes 89 = .ok (.iaload, 1) := by decide +kernel
theorem dX6_goes_90 : decode cX6_goes 90 = .ok (.bipush (-9), 2) := by decide +kernel
theorem dX6_goes_92 : decode cX6_goes 92 = .ok (.if_icmp .ne 22, 3) := by decide +kernel
theorem dX6_goes_95 : decode cX6_goes 95 = .ok (.aload_n 0, 1) := by decide +kernel
theorem dX6_goes_96 : decode cX6_goes 96 = .ok (.iload_n 3, 1) := by decide +kernel
theorem dX6_goes_97 : decode cX6_goes 97 = .ok (.bipush 20, 2) := by decide +kernel
theorem dX6_goes_99 : decode cX6_goes 99 = .ok (.iload_n 1, 1) := by decide +kernel
theorem dX6_goes_100 : decode cX6_goes 100 = .ok (.imul, 1) := by decide +kernel
theorem dX6_goes_101 : decode cX6_goes 101 = .ok (.aload_n 0, 1) := by decide +kernel
theorem dX6_goes_102 : decode cX6_goes 102 = .ok (.getfield 22, 3) := by decide +kernel
theorem dX6_goes_105 : decode cX6_goes 105 = .ok (.iload_n 3, 1) := by decide +kernel
theorem dX6_goes_106 : decode cX6_goes 106 = .ok (.iaload, 1) := by decide +kernel
theorem dX6_goes_107 : decode cX6_goes 107 = .ok (.iadd, 1) := by decide +kernel
theorem dX6_goes_108 : decode cX6_goes 108 = .ok (.invokevirtual 236, 3) := by decide +kernel
theorem dX6_goes_111 : decode cX6_goes 111 = .ok (.goto 30, 3) := by decide +kernel
theorem dX6_goes_114 : decode cX6_goes 114 = .ok (.aload_n 0, 1) := by decide +kernel
theorem dX6_goes_115 : decode cX6_goes 115 = .ok (.iload_n 3, 1) := by decide +kernel
theorem dX6_goes_116 : decode cX6_goes 116 = .ok (.bipush 20, 2) := by decide +kernel
theorem dX6_goes_118 : decode cX6_goes 118 = .ok (.iload_n 1, 1) := by decide +kernel
theorem dX6_goes_119 : decode cX6_goes 119 = .ok (.imul, 1) := by decide +kernel
theorem dX6_goes_120 : decode cX6_goes 120 = .ok (.aload_n 0, 1) := by decide +kernel
theorem dX6_goes_121 : decode cX6_goes 121 = .ok (.getfield 22, 3) := by decide +kernel
theorem dX6_goes_124 : decode cX6_goes 124 = .ok (.iload_n 3, 1) := by decide +kernel
theorem dX6_goes_125 : decode cX6_goes 125 = .ok (.iaload, 1) := by decide +kernel
theorem dX6_goes_126 : decode cX6_goes 126 = .ok (.iadd, 1) := by decide +kernel
theorem dX6_goes_127 : decode cX6_goes 127 = .ok (.bipush 20, 2) := by decide +kernel
theorem dX6_goes_129 : decode cX6_goes 129 = .ok (.iload_n 1, 1) := by decide +kernel
theorem dX6_goes_130 : decode cX6_goes 130 = .ok (.imul, 1) := by decide +kernel
theorem dX6_goes_131 : decode cX6_goes 131 = .ok (.aload_n 0, 1) := by decide +kernel
theorem dX6_goes_132 : decode cX6_goes 132 = .ok (.getfield 25, 3) := by decide +kernel
theorem dX6_goes_135 : decode cX6_goes 135 = .ok (.iload_n 3, 1) := by decide +kernel
theorem dX6_goes_136 : decode cX6_goes 136 = .ok (.iaload, 1) := by decide +kernel
theorem dX6_goes_137 : decode cX6_goes 137 = .ok (.iadd, 1) := by decide +kernel
theorem dX6_goes_138 : decode cX6_goes 138 = .ok (.invokevirtual 239, 3) := by decide +kernel
theorem dX6_goes_141 : decode cX6_goes 141 = .ok (.iinc 2 1, 3) := by decide +kernel
theorem dX6_goes_144 : decode cX6_goes 144 = .ok (.goto (-132), 3) := by decide +kernel
theorem dX6_goes_147 : decode cX6_goes 147 = .ok (.iinc 1 1, 3) := by decide +kernel
theorem dX6_goes_150 : decode cX6_goes 150 = .ok (.goto (-148), 3) := by decide +kernel
theorem dX6_goes_153 : decode cX6_goes 153 = .ok (.return_, 1) := by decide +kernel
theorem dX6_value_0 : decode cX6_value 0 = .ok (.aload_n 0, 1) := by decide +kernel
theorem dX6_value_1 : decode cX6_value 1 = .ok (.iconst 0, 1) := by decide +kernel
theorem dX6_value_2 : decode cX6_value 2 = .ok (.putfield 93, 3) := by decide +kernel
theorem dX6_value_5 : decode cX6_value 5 = .ok (.aload_n 0, 1) := by decide +kernel
theorem dX6_value_6 : decode cX6_value 6 = .ok (.iload_n 1, 1) := by decide +kernel
theorem dX6_value_7 : decode cX6_value 7 = .ok (.invokevirtual 243, 3) := by decide +kernel
theorem dX6_value_10 : decode cX6_value 10 = .ok (.ifCond .ne 7, 3) := by decide +kernel
theorem dX6_value_13 : decode cX6_value 13 = .ok (.ldc2_w 211, 3) := by decide +kernel
theorem dX6_value_16 : decode cX6_value 16 = .ok (.lreturn, 1) := by decide +kernel
theorem dX6_value_17 : decode cX6_value 17 = .ok (.aload_n 0, 1) := by decide +kernel
theorem dX6_value_18 : decode cX6_value 18 = .ok (.invokevirtual 246, 3) := by decide +kernel
theorem dX6_value_21 : decode cX6_value 21 = .ok (.aload_n 0, 1) := by decide +kernel
theorem dX6_value_22 : decode cX6_value 22 = .ok (.getfield 72, 3) := by decide +kernel
theorem dX6_value_25 : decode cX6_value 25 = .ok (.aload_n 0, 1) := by decide +kernel
theorem dX6_value_26 : decode cX6_value 26 = .ok (.iload_n 1, 1) := by decide +kernel
theorem dX6_value_27 : decode cX6_value 27 = .ok (.invokevirtual 229, 3) := by decide +kernel
theorem dX6_value_30 : decode cX6_value 30 = .ok (.laload, 1) := by decide +kernel
theorem dX6_value_31 : decode cX6_value 31 = .ok (.lreturn, 1) := by decide +kernel
theorem dX6_slopeOf_0 : decode cX6_slopeOf 0 = .ok (.aload_n 0, 1) := by decide +kernel
theorem dX6_slopeOf_1 : decode cX6_slopeOf 1 = .ok (.getfield 75, 3) := by decide +kernel
theorem dX6_slopeOf_4 : decode cX6_slopeOf 4 = .ok (.bipush 6, 2) := by decide +kernel
theorem dX6_slopeOf_6 : decode cX6_slopeOf 6 = .ok (.aload_n 0, 1) := by decide +kernel
theorem dX6_slopeOf_7 : decode cX6_slopeOf 7 = .ok (.iload_n 1, 1) := by decide +kernel
theorem dX6_slopeOf_8 : decode cX6_slopeOf 8 = .ok (.invokevirtual 229, 3) := by decide +kernel
theorem dX6_slopeOf_11 : decode cX6_slopeOf 11 = .ok (.imul, 1) := by decide +kernel
theorem dX6_slopeOf_12 : decode cX6_slopeOf 12 = .ok (.iload_n 2, 1) := by decide +kernel
theorem dX6_slopeOf_13 : decode cX6_slopeOf 13 = .ok (.iadd, 1) := by decide +kernel
theorem dX6_slopeOf_14 : decode cX6_slopeOf 14 = .ok (.laload, 1) := by decide +kernel
theorem dX6_slopeOf_15 : decode cX6_slopeOf 15 = .ok (.lreturn, 1) := by decide +kernel
theorem dX6_slope_0 : decode cX6_slope 0 = .ok (.aload_n 0, 1) := by decide +kernel
theorem dX6_slope_1 : decode cX6_slope 1 = .ok (.iconst 0, 1) := by decide +kernel
theorem dX6_slope_2 : decode cX6_slope 2 = .ok (.putfield 93, 3) := by decide +kernel
theorem dX6_slope_5 : decode cX6_slope 5 = .ok (.aload_n 0, 1) := by decide +kernel
theorem dX6_slope_6 : decode cX6_slope 6 = .ok (.iload_n 1, 1) := by decide +kernel
theorem dX6_slope_7 : decode cX6_slope 7 = .ok (.invokevirtual 243, 3) := by decide +kernel
theorem dX6_slope_10 : decode cX6_slope 10 = .ok (.ifCond .eq 10, 3) := by decide +kernel
theorem dX6_slope_13 : decode cX6_slope 13 = .ok (.iload_n 2, 1) := by decide +kernel
theorem dX6_slope_14 : decode cX6_slope 14 = .ok (.invokestatic 208, 3) := by decide +kernel
theorem dX6_slope_17 : decode cX6_slope 17 = .ok (.ifCond .ne 7, 3) := by decide +kernel
theorem dX6_slope_20 : decode cX6_slope 20 = .ok (.ldc2_w 211, 3) := by decide +kernel
theorem dX6_slope_23 : decode cX6_slope 23 = .ok (.lreturn, 1) := by decide +kernel
theorem dX6_slope_24 : decode cX6_slope 24 = .ok (.aload_n 0, 1) := by decide +kernel
theorem dX6_slope_25 : decode cX6_slope 25 = .ok (.invokevirtual 246, 3) := by decide +kernel
theorem dX6_slope_28 : decode cX6_slope 28 = .ok (.aload_n 0, 1) := by decide +kernel
theorem dX6_slope_29 : decode cX6_slope 29 = .ok (.iload_n 1, 1) := by decide +kernel
theorem dX6_slope_30 : decode cX6_slope 30 = .ok (.iload_n 2, 1) := by decide +kernel
theorem dX6_slope_31 : decode cX6_slope 31 = .ok (.invokevirtual 249, 3) := by decide +kernel
theorem dX6_slope_34 : decode cX6_slope 34 = .ok (.lreturn, 1) := by decide +kernel
theorem dX6_bend_0 : decode cX6_bend 0 = .ok (.aload_n 0, 1) := by decide +kernel
theorem dX6_bend_1 : decode cX6_bend 1 = .ok (.iconst 0, 1) := by decide +kernel
theorem dX6_bend_2 : decode cX6_bend 2 = .ok (.putfield 93, 3) := by decide +kernel
theorem dX6_bend_5 : decode cX6_bend 5 = .ok (.aload_n 0, 1) := by decide +kernel
theorem dX6_bend_6 : decode cX6_bend 6 = .ok (.iload_n 1, 1) := by decide +kernel
theorem dX6_bend_7 : decode cX6_bend 7 = .ok (.invokevirtual 243, 3) := by decide +kernel
theorem dX6_bend_10 : decode cX6_bend 10 = .ok (.ifCond .eq 17, 3) := by decide +kernel
theorem dX6_bend_13 : decode cX6_bend 13 = .ok (.iload_n 2, 1) := by decide +kernel
theorem dX6_bend_14 : decode cX6_bend 14 = .ok (.invokestatic 208, 3) := by decide +kernel
theorem dX6_bend_17 : decode cX6_bend 17 = .ok (.ifCond .eq 10, 3) := by decide +kernel
theorem dX6_bend_20 : decode cX6_bend 20 = .ok (.iload_n 3, 1) := by decide +kernel
theorem dX6_bend_21 : decode cX6_bend 21 = .ok (.invokestatic 208, 3) := by decide +kernel
theorem dX6_bend_24 : decode cX6_bend 24 = .ok (.ifCond .ne 7, 3) := by decide +kernel
theorem dX6_bend_27 : decode cX6_bend 27 = .ok (.ldc2_w 211, 3) := by decide +kernel
theorem dX6_bend_30 : decode cX6_bend 30 = .ok (.lreturn, 1) := by decide +kernel
theorem dX6_bend_31 : decode cX6_bend 31 = .ok (.aload_n 0, 1) := by decide +kernel
theorem dX6_bend_32 : decode cX6_bend 32 = .ok (.invokevirtual 246, 3) := by decide +kernel
theorem dX6_bend_35 : decode cX6_bend 35 = .ok (.aload_n 0, 1) := by decide +kernel
theorem dX6_bend_36 : decode cX6_bend 36 = .ok (.getfield 78, 3) := by decide +kernel
theorem dX6_bend_39 : decode cX6_bend 39 = .ok (.bipush 36, 2) := by decide +kernel
theorem dX6_bend_41 : decode cX6_bend 41 = .ok (.aload_n 0, 1) := by decide +kernel
theorem dX6_bend_42 : decode cX6_bend 42 = .ok (.iload_n 1, 1) := by decide +kernel
theorem dX6_bend_43 : decode cX6_bend 43 = .ok (.invokevirtual 229, 3) := by decide +kernel
theorem dX6_bend_46 : decode cX6_bend 46 = .ok (.imul, 1) := by decide +kernel
theorem dX6_bend_47 : decode cX6_bend 47 = .ok (.bipush 6, 2) := by decide +kernel
theorem dX6_bend_49 : decode cX6_bend 49 = .ok (.iload_n 2, 1) := by decide +kernel
theorem dX6_bend_50 : decode cX6_bend 50 = .ok (.imul, 1) := by decide +kernel
theorem dX6_bend_51 : decode cX6_bend 51 = .ok (.iadd, 1) := by decide +kernel
theorem dX6_bend_52 : decode cX6_bend 52 = .ok (.iload_n 3, 1) := by decide +kernel
theorem dX6_bend_53 : decode cX6_bend 53 = .ok (.iadd, 1) := by decide +kernel
theorem dX6_bend_54 : decode cX6_bend 54 = .ok (.laload, 1) := by decide +kernel
theorem dX6_bend_55 : decode cX6_bend 55 = .ok (.lreturn, 1) := by decide +kernel
theorem dX6_togetherOf_0 : decode cX6_togetherOf 0 = .ok (.lconst 0, 1) := by decide +kernel
theorem dX6_togetherOf_1 : decode cX6_togetherOf 1 = .ok (.lstore 4, 2) := by decide +kernel
theorem dX6_togetherOf_3 : decode cX6_togetherOf 3 = .ok (.iconst 0, 1) := by decide +kernel
theorem dX6_togetherOf_4 : decode cX6_togetherOf 4 = .ok (.istore 6, 2) := by decide +kernel
theorem dX6_togetherOf_6 : decode cX6_togetherOf 6 = .ok (.iload 6, 2) := by decide +kernel
theorem dX6_togetherOf_8 : decode cX6_togetherOf 8 = .ok (.bipush 6, 2) := by decide +kernel
theorem dX6_togetherOf_10 : decode cX6_togetherOf 10 = .ok (.if_icmp .ge 77, 3) := by decide +kernel
theorem dX6_togetherOf_13 : decode cX6_togetherOf 13 = .ok (.iconst 0, 1) := by decide +kernel
theorem dX6_togetherOf_14 : decode cX6_togetherOf 14 = .ok (.istore 7, 2) := by decide +kernel
theorem dX6_togetherOf_16 : decode cX6_togetherOf 16 = .ok (.iload 7, 2) := by decide +kernel
theorem dX6_togetherOf_18 : decode cX6_togetherOf 18 = .ok (.bipush 6, 2) := by decide +kernel
theorem dX6_togetherOf_20 : decode cX6_togetherOf 20 = .ok (.if_icmp .ge 61, 3) := by decide +kernel
theorem dX6_togetherOf_23 : decode cX6_togetherOf 23 = .ok (.lload 4, 2) := by decide +kernel
theorem dX6_togetherOf_25 : decode cX6_togetherOf 25 = .ok (.iload_n 3, 1) := by decide +kernel
theorem dX6_togetherOf_26 : decode cX6_togetherOf 26 = .ok (.iload 6, 2) := by decide +kernel
theorem dX6_togetherOf_28 : decode cX6_togetherOf 28 = .ok (.invokestatic 253, 3) := by decide +kernel
theorem dX6_togetherOf_31 : decode cX6_togetherOf 31 = .ok (.ifCond .ne 12, 3) := by decide +kernel
theorem dX6_togetherOf_34 : decode cX6_togetherOf 34 = .ok (.iload_n 3, 1) := by decide +kernel
theorem dX6_togetherOf_35 : decode cX6_togetherOf 35 = .ok (.iload 7, 2) := by decide +kernel
theorem dX6_togetherOf_37 : decode cX6_togetherOf 37 = .ok (.invokestatic 253, 3) := by decide +kernel
theorem dX6_togetherOf_40 : decode cX6_togetherOf 40 = .ok (.ifCond .eq 7, 3) := by decide +kernel
theorem dX6_togetherOf_43 : decode cX6_togetherOf 43 = .ok (.lconst 0, 1) := by decide +kernel
theorem dX6_togetherOf_44 : decode cX6_togetherOf 44 = .ok (.goto 28, 3) := by decide +kernel
theorem dX6_togetherOf_47 : decode cX6_togetherOf 47 = .ok (.aload_n 0, 1) := by decide +kernel
theorem dX6_togetherOf_48 : decode cX6_togetherOf 48 = .ok (.iload_n 1, 1) := by decide +kernel
theorem dX6_togetherOf_49 : decode cX6_togetherOf 49 = .ok (.iload 6, 2) := by decide +kernel
theorem dX6_togetherOf_51 : decode cX6_togetherOf 51 = .ok (.invokevirtual 249, 3) := by decide +kernel
theorem dX6_togetherOf_54 : decode cX6_togetherOf 54 = .ok (.aload_n 0, 1) := by decide +kernel
theorem dX6_togetherOf_55 : decode cX6_togetherOf 55 = .ok (.iload_n 2, 1) := by decide +kernel
theorem dX6_togetherOf_56 : decode cX6_togetherOf 56 = .ok (.iload 7, 2) := by decide +kernel
theorem dX6_togetherOf_58 : decode cX6_togetherOf 58 = .ok (.invokevirtual 249, 3) := by decide +kernel
theorem dX6_togetherOf_61 : decode cX6_togetherOf 61 = .ok (.lmul, 1) := by decide +kernel
theorem dX6_togetherOf_62 : decode cX6_togetherOf 62 = .ok (.aload_n 0, 1) := by decide +kernel
theorem dX6_togetherOf_63 : decode cX6_togetherOf 63 = .ok (.iload 6, 2) := by decide +kernel
theorem dX6_togetherOf_65 : decode cX6_togetherOf 65 = .ok (.iload 7, 2) := by decide +kernel
theorem dX6_togetherOf_67 : decode cX6_togetherOf 67 = .ok (.invokevirtual 213, 3) := by decide +kernel
theorem dX6_togetherOf_70 : decode cX6_togetherOf 70 = .ok (.i2l, 1) := by decide +kernel
theorem dX6_togetherOf_71 : decode cX6_togetherOf 71 = .ok (.lmul, 1) := by decide +kernel
theorem dX6_togetherOf_72 : decode cX6_togetherOf 72 = .ok (.ladd, 1) := by decide +kernel
theorem dX6_togetherOf_73 : decode cX6_togetherOf 73 = .ok (.lstore 4, 2) := by decide +kernel
theorem dX6_togetherOf_75 : decode cX6_togetherOf 75 = .ok (.iinc 7 1, 3) := by decide +kernel
theorem dX6_togetherOf_78 : decode cX6_togetherOf 78 = .ok (.goto (-62), 3) := by decide +kernel
theorem dX6_togetherOf_81 : decode cX6_togetherOf 81 = .ok (.iinc 6 1, 3) := by decide +kernel
theorem dX6_togetherOf_84 : decode cX6_togetherOf 84 = .ok (.goto (-78), 3) := by decide +kernel
theorem dX6_togetherOf_87 : decode cX6_togetherOf 87 = .ok (.lload 4, 2) := by decide +kernel
theorem dX6_togetherOf_89 : decode cX6_togetherOf 89 = .ok (.lreturn, 1) := by decide +kernel
theorem dX6_shareOf_0 : decode cX6_shareOf 0 = .ok (.lconst 0, 1) := by decide +kernel
theorem dX6_shareOf_1 : decode cX6_shareOf 1 = .ok (.lstore_n 3, 1) := by decide +kernel
theorem dX6_shareOf_2 : decode cX6_shareOf 2 = .ok (.iconst 0, 1) := by decide +kernel
theorem dX6_shareOf_3 : decode cX6_shareOf 3 = .ok (.istore 5, 2) := by decide +kernel
theorem dX6_shareOf_5 : decode cX6_shareOf 5 = .ok (.iload 5, 2) := by decide +kernel
theorem dX6_shareOf_7 : decode cX6_shareOf 7 = .ok (.bipush 6, 2) := by decide +kernel
theorem dX6_shareOf_9 : decode cX6_shareOf 9 = .ok (.if_icmp .ge 35, 3) := by decide +kernel
theorem dX6_shareOf_12 : decode cX6_shareOf 12 = .ok (.lload_n 3, 1) := by decide +kernel
theorem dX6_shareOf_13 : decode cX6_shareOf 13 = .ok (.aload_n 0, 1) := by decide +kernel
theorem dX6_shareOf_14 : decode cX6_shareOf 14 = .ok (.iload_n 1, 1) := by decide +kernel
theorem dX6_shareOf_15 : decode cX6_shareOf 15 = .ok (.iload_n 2, 1) := by decide +kernel
theorem dX6_shareOf_16 : decode cX6_shareOf 16 = .ok (.invokevirtual 249, 3) := by decide +kernel
theorem dX6_shareOf_19 : decode cX6_shareOf 19 = .ok (.aload_n 0, 1) := by decide +kernel
theorem dX6_shareOf_20 : decode cX6_shareOf 20 = .ok (.iload_n 1, 1) := by decide +kernel
theorem dX6_shareOf_21 : decode cX6_shareOf 21 = .ok (.iload 5, 2) := by decide +kernel
theorem dX6_shareOf_23 : decode cX6_shareOf 23 = .ok (.invokevirtual 249, 3) := by decide +kernel
theorem dX6_shareOf_26 : decode cX6_shareOf 26 = .ok (.lmul, 1) := by decide +kernel
theorem dX6_shareOf_27 : decode cX6_shareOf 27 = .ok (.aload_n 0, 1) := by decide +kernel
theorem dX6_shareOf_28 : decode cX6_shareOf 28 = .ok (.iload_n 2, 1) := by decide +kernel
theorem dX6_shareOf_29 : decode cX6_shareOf 29 = .ok (.iload 5, 2) := by decide +kernel
theorem dX6_shareOf_31 : decode cX6_shareOf 31 = .ok (.invokevirtual 213, 3) := by decide +kernel
theorem dX6_shareOf_34 : decode cX6_shareOf 34 = .ok (.i2l, 1) := by decide +kernel
theorem dX6_shareOf_35 : decode cX6_shareOf 35 = .ok (.lmul, 1) := by decide +kernel
theorem dX6_shareOf_36 : decode cX6_shareOf 36 = .ok (.ladd, 1) := by decide +kernel
theorem dX6_shareOf_37 : decode cX6_shareOf 37 = .ok (.lstore_n 3, 1) := by decide +kernel
theorem dX6_shareOf_38 : decode cX6_shareOf 38 = .ok (.iinc 5 1, 3) := by decide +kernel
theorem dX6_shareOf_41 : decode cX6_shareOf 41 = .ok (.goto (-36), 3) := by decide +kernel
theorem dX6_shareOf_44 : decode cX6_shareOf 44 = .ok (.lload_n 3, 1) := by decide +kernel
theorem dX6_shareOf_45 : decode cX6_shareOf 45 = .ok (.lreturn, 1) := by decide +kernel
theorem dX6_takesOf_0 : decode cX6_takesOf 0 = .ok (.aload_n 0, 1) := by decide +kernel
theorem dX6_takesOf_1 : decode cX6_takesOf 1 = .ok (.iload_n 1, 1) := by decide +kernel
theorem dX6_takesOf_2 : decode cX6_takesOf 2 = .ok (.iload_n 1, 1) := by decide +kernel
theorem dX6_takesOf_3 : decode cX6_takesOf 3 = .ok (.iconst 0, 1) := by decide +kernel
theorem dX6_takesOf_4 : decode cX6_takesOf 4 = .ok (.invokevirtual 256, 3) := by decide +kernel
theorem dX6_takesOf_7 : decode cX6_takesOf 7 = .ok (.aload_n 0, 1) := by decide +kernel
theorem dX6_takesOf_8 : decode cX6_takesOf 8 = .ok (.iload_n 1, 1) := by decide +kernel
theorem dX6_takesOf_9 : decode cX6_takesOf 9 = .ok (.iload_n 1, 1) := by decide +kernel
theorem dX6_takesOf_10 : decode cX6_takesOf 10 = .ok (.iconst 1, 1) := by decide +kernel
theorem dX6_takesOf_11 : decode cX6_takesOf 11 = .ok (.iload_n 2, 1) := by decide +kernel
theorem dX6_takesOf_12 : decode cX6_takesOf 12 = .ok (.ishl, 1) := by decide +kernel
theorem dX6_takesOf_13 : decode cX6_takesOf 13 = .ok (.invokevirtual 256, 3) := by decide +kernel
theorem dX6_takesOf_16 : decode cX6_takesOf 16 = .ok (.lsub, 1) := by decide +kernel
theorem dX6_takesOf_17 : decode cX6_takesOf 17 = .ok (.lreturn, 1) := by decide +kernel
theorem dX6_whole_0 : decode cX6_whole 0 = .ok (.aload_n 0, 1) := by decide +kernel
theorem dX6_whole_1 : decode cX6_whole 1 = .ok (.iconst 0, 1) := by decide +kernel
theorem dX6_whole_2 : decode cX6_whole 2 = .ok (.putfield 93, 3) := by decide +kernel
theorem dX6_whole_5 : decode cX6_whole 5 = .ok (.aload_n 0, 1) := by decide +kernel
theorem dX6_whole_6 : decode cX6_whole 6 = .ok (.iload_n 1, 1) := by decide +kernel
theorem dX6_whole_7 : decode cX6_whole 7 = .ok (.invokevirtual 243, 3) := by decide +kernel
theorem dX6_whole_10 : decode cX6_whole 10 = .ok (.ifCond .ne 7, 3) := by decide +kernel
theorem dX6_whole_13 : decode cX6_whole 13 = .ok (.ldc2_w 211, 3) := by decide +kernel
theorem dX6_whole_16 : decode cX6_whole 16 = .ok (.lreturn, 1) := by decide +kernel
theorem dX6_whole_17 : decode cX6_whole 17 = .ok (.aload_n 0, 1) := by decide +kernel
theorem dX6_whole_18 : decode cX6_whole 18 = .ok (.invokevirtual 246, 3) := by decide +kernel
theorem dX6_whole_21 : decode cX6_whole 21 = .ok (.aload_n 0, 1) := by decide +kernel
theorem dX6_whole_22 : decode cX6_whole 22 = .ok (.iload_n 1, 1) := by decide +kernel
theorem dX6_whole_23 : decode cX6_whole 23 = .ok (.iload_n 1, 1) := by decide +kernel
theorem dX6_whole_24 : decode cX6_whole 24 = .ok (.iconst 0, 1) := by decide +kernel
theorem dX6_whole_25 : decode cX6_whole 25 = .ok (.invokevirtual 256, 3) := by decide +kernel
theorem dX6_whole_28 : decode cX6_whole 28 = .ok (.lreturn, 1) := by decide +kernel
theorem dX6_together_0 : decode cX6_together 0 = .ok (.aload_n 0, 1) := by decide +kernel
theorem dX6_together_1 : decode cX6_together 1 = .ok (.iconst 0, 1) := by decide +kernel
theorem dX6_together_2 : decode cX6_together 2 = .ok (.putfield 93, 3) := by decide +kernel
theorem dX6_together_5 : decode cX6_together 5 = .ok (.aload_n 0, 1) := by decide +kernel
theorem dX6_together_6 : decode cX6_together 6 = .ok (.iload_n 1, 1) := by decide +kernel
theorem dX6_together_7 : decode cX6_together 7 = .ok (.invokevirtual 243, 3) := by decide +kernel
theorem dX6_together_10 : decode cX6_together 10 = .ok (.ifCond .eq 11, 3) := by decide +kernel
theorem dX6_together_13 : decode cX6_together 13 = .ok (.aload_n 0, 1) := by decide +kernel
theorem dX6_together_14 : decode cX6_together 14 = .ok (.iload_n 2, 1) := by decide +kernel
theorem dX6_together_15 : decode cX6_together 15 = .ok (.invokevirtual 243, 3) := by decide +kernel
theorem dX6_together_18 : decode cX6_together 18 = .ok (.ifCond .ne 7, 3) := by decide +kernel
theorem dX6_together_21 : decode cX6_together 21 = .ok (.ldc2_w 211, 3) := by decide +kernel
theorem dX6_together_24 : decode cX6_together 24 = .ok (.lreturn, 1) := by decide +kernel
theorem dX6_together_25 : decode cX6_together 25 = .ok (.aload_n 0, 1) := by decide +kernel
theorem dX6_together_26 : decode cX6_together 26 = .ok (.invokevirtual 246, 3) := by decide +kernel
theorem dX6_together_29 : decode cX6_together 29 = .ok (.aload_n 0, 1) := by decide +kernel
theorem dX6_together_30 : decode cX6_together 30 = .ok (.iload_n 1, 1) := by decide +kernel
theorem dX6_together_31 : decode cX6_together 31 = .ok (.iload_n 2, 1) := by decide +kernel
theorem dX6_together_32 : decode cX6_together 32 = .ok (.iconst 0, 1) := by decide +kernel
theorem dX6_together_33 : decode cX6_together 33 = .ok (.invokevirtual 256, 3) := by decide +kernel
theorem dX6_together_36 : decode cX6_together 36 = .ok (.lreturn, 1) := by decide +kernel
theorem dX6_share_0 : decode cX6_share 0 = .ok (.aload_n 0, 1) := by decide +kernel
theorem dX6_share_1 : decode cX6_share 1 = .ok (.iconst 0, 1) := by decide +kernel
theorem dX6_share_2 : decode cX6_share 2 = .ok (.putfield 93, 3) := by decide +kernel
theorem dX6_share_5 : decode cX6_share 5 = .ok (.aload_n 0, 1) := by decide +kernel
theorem dX6_share_6 : decode cX6_share 6 = .ok (.iload_n 1, 1) := by decide +kernel
theorem dX6_share_7 : decode cX6_share 7 = .ok (.invokevirtual 243, 3) := by decide +kernel
theorem dX6_share_10 : decode cX6_share 10 = .ok (.ifCond .eq 10, 3) := by decide +kernel
theorem dX6_share_13 : decode cX6_share 13 = .ok (.iload_n 2, 1) := by decide +kernel
theorem dX6_share_14 : decode cX6_share 14 = .ok (.invokestatic 208, 3) := by decide +kernel
theorem dX6_share_17 : decode cX6_share 17 = .ok (.ifCond .ne 7, 3) := by decide +kernel
theorem dX6_share_20 : decode cX6_share 20 = .ok (.ldc2_w 211, 3) := by decide +kernel
theorem dX6_share_23 : decode cX6_share 23 = .ok (.lreturn, 1) := by decide +kernel
theorem dX6_share_24 : decode cX6_share 24 = .ok (.aload_n 0, 1) := by decide +kernel
theorem dX6_share_25 : decode cX6_share 25 = .ok (.invokevirtual 246, 3) := by decide +kernel
theorem dX6_share_28 : decode cX6_share 28 = .ok (.aload_n 0, 1) := by decide +kernel
theorem dX6_share_29 : decode cX6_share 29 = .ok (.iload_n 1, 1) := by decide +kernel
theorem dX6_share_30 : decode cX6_share 30 = .ok (.iload_n 2, 1) := by decide +kernel
theorem dX6_share_31 : decode cX6_share 31 = .ok (.invokevirtual 260, 3) := by decide +kernel
theorem dX6_share_34 : decode cX6_share 34 = .ok (.lreturn, 1) := by decide +kernel
theorem dX6_left_0 : decode cX6_left 0 = .ok (.aload_n 0, 1) := by decide +kernel
theorem dX6_left_1 : decode cX6_left 1 = .ok (.iconst 0, 1) := by decide +kernel
theorem dX6_left_2 : decode cX6_left 2 = .ok (.putfield 93, 3) := by decide +kernel
theorem dX6_left_5 : decode cX6_left 5 = .ok (.aload_n 0, 1) := by decide +kernel
theorem dX6_left_6 : decode cX6_left 6 = .ok (.iload_n 1, 1) := by decide +kernel
theorem dX6_left_7 : decode cX6_left 7 = .ok (.invokevirtual 243, 3) := by decide +kernel
theorem dX6_left_10 : decode cX6_left 10 = .ok (.ifCond .eq 13, 3) := by decide +kernel
theorem dX6_left_13 : decode cX6_left 13 = .ok (.iload_n 2, 1) := by decide +kernel
theorem dX6_left_14 : decode cX6_left 14 = .ok (.iconst 0, 1) := by decide +kernel
theorem dX6_left_15 : decode cX6_left 15 = .ok (.bipush 63, 2) := by decide +kernel
theorem dX6_left_17 : decode cX6_left 17 = .ok (.invokestatic 97, 3) := by decide +kernel
theorem dX6_left_20 : decode cX6_left 20 = .ok (.ifCond .ne 7, 3) := by decide +kernel
theorem dX6_left_23 : decode cX6_left 23 = .ok (.ldc2_w 211, 3) := by decide +kernel
theorem dX6_left_26 : decode cX6_left 26 = .ok (.lreturn, 1) := by decide +kernel
theorem dX6_left_27 : decode cX6_left 27 = .ok (.aload_n 0, 1) := by decide +kernel
theorem dX6_left_28 : decode cX6_left 28 = .ok (.invokevirtual 246, 3) := by decide +kernel
theorem dX6_left_31 : decode cX6_left 31 = .ok (.aload_n 0, 1) := by decide +kernel
theorem dX6_left_32 : decode cX6_left 32 = .ok (.iload_n 1, 1) := by decide +kernel
theorem dX6_left_33 : decode cX6_left 33 = .ok (.iload_n 1, 1) := by decide +kernel
theorem dX6_left_34 : decode cX6_left 34 = .ok (.iload_n 2, 1) := by decide +kernel
theorem dX6_left_35 : decode cX6_left 35 = .ok (.invokevirtual 256, 3) := by decide +kernel
theorem dX6_left_38 : decode cX6_left 38 = .ok (.lreturn, 1) := by decide +kernel
theorem dX6_fewest_0 : decode cX6_fewest 0 = .ok (.aload_n 0, 1) := by decide +kernel
theorem dX6_fewest_1 : decode cX6_fewest 1 = .ok (.iconst 0, 1) := by decide +kernel
theorem dX6_fewest_2 : decode cX6_fewest 2 = .ok (.putfield 93, 3) := by decide +kernel
theorem dX6_fewest_5 : decode cX6_fewest 5 = .ok (.aload_n 0, 1) := by decide +kernel
theorem dX6_fewest_6 : decode cX6_fewest 6 = .ok (.iload_n 1, 1) := by decide +kernel
theorem dX6_fewest_7 : decode cX6_fewest 7 = .ok (.invokevirtual 243, 3) := by decide +kernel
theorem dX6_fewest_10 : decode cX6_fewest 10 = .ok (.ifCond .ne 5, 3) := by decide +kernel
theorem dX6_fewest_13 : decode cX6_fewest 13 = .ok (.iconst (-1), 1) := by decide +kernel
theorem dX6_fewest_14 : decode cX6_fewest 14 = .ok (.ireturn, 1) := by decide +kernel
theorem dX6_fewest_15 : decode cX6_fewest 15 = .ok (.aload_n 0, 1) := by decide +kernel
theorem dX6_fewest_16 : decode cX6_fewest 16 = .ok (.invokevirtual 246, 3) := by decide +kernel
theorem dX6_fewest_19 : decode cX6_fewest 19 = .ok (.bipush (-9), 2) := by decide +kernel
theorem dX6_fewest_21 : decode cX6_fewest 21 = .ok (.istore 4, 2) := by decide +kernel
theorem dX6_fewest_23 : decode cX6_fewest 23 = .ok (.iconst 0, 1) := by decide +kernel
theorem dX6_fewest_24 : decode cX6_fewest 24 = .ok (.istore 5, 2) := by decide +kernel
theorem dX6_fewest_26 : decode cX6_fewest 26 = .ok (.iload 5, 2) := by decide +kernel
theorem dX6_fewest_28 : decode cX6_fewest 28 = .ok (.bipush 64, 2) := by decide +kernel
theorem dX6_fewest_30 : decode cX6_fewest 30 = .ok (.if_icmp .ge 63, 3) := by decide +kernel
theorem dX6_fewest_33 : decode cX6_fewest 33 = .ok (.iload 4, 2) := by decide +kernel
theorem dX6_fewest_35 : decode cX6_fewest 35 = .ok (.bipush (-9), 2) := by decide +kernel
theorem dX6_fewest_37 : decode cX6_fewest 37 = .ok (.if_icmp .eq 16, 3) := by decide +kernel
theorem dX6_fewest_40 : decode cX6_fewest 40 = .ok (.iload 5, 2) := by decide +kernel
theorem dX6_fewest_42 : decode cX6_fewest 42 = .ok (.invokestatic 263, 3) := by decide +kernel
theorem dX6_fewest_45 : decode cX6_fewest 45 = .ok (.iload 4, 2) := by decide +kernel
theorem dX6_fewest_47 : decode cX6_fewest 47 = .ok (.invokestatic 263, 3) := by decide +kernel
theorem dX6_fewest_50 : decode cX6_fewest 50 = .ok (.if_icmp .ge 7, 3) := by decide +kernel
theorem dX6_fewest_53 : decode cX6_fewest 53 = .ok (.iconst 1, 1) := by decide +kernel
theorem dX6_fewest_54 : decode cX6_fewest 54 = .ok (.goto 4, 3) := by decide +kernel
theorem dX6_fewest_57 : decode cX6_fewest 57 = .ok (.iconst 0, 1) := by decide +kernel
theorem dX6_fewest_58 : decode cX6_fewest 58 = .ok (.istore 6, 2) := by decide +kernel
theorem dX6_fewest_60 : decode cX6_fewest 60 = .ok (.iload 6, 2) := by decide +kernel
theorem dX6_fewest_62 : decode cX6_fewest 62 = .ok (.ifCond .eq 21, 3) := by decide +kernel
theorem dX6_fewest_65 : decode cX6_fewest 65 = .ok (.aload_n 0, 1) := by decide +kernel
theorem dX6_fewest_66 : decode cX6_fewest 66 = .ok (.iload_n 1, 1) := by decide +kernel
theorem dX6_fewest_67 : decode cX6_fewest 67 = .ok (.iload_n 1, 1) := by decide +kernel
theorem dX6_fewest_68 : decode cX6_fewest 68 = .ok (.iload 5, 2) := by decide +kernel
theorem dX6_fewest_70 : decode cX6_fewest 70 = .ok (.invokevirtual 256, 3) := by decide +kernel
theorem dX6_fewest_73 : decode cX6_fewest 73 = .ok (.lload_n 2, 1) := by decide +kernel
theorem dX6_fewest_74 : decode cX6_fewest 74 = .ok (.lcmp, 1) := by decide +kernel
theorem dX6_fewest_75 : decode cX6_fewest 75 = .ok (.ifCond .gt 8, 3) := by decide +kernel
theorem dX6_fewest_78 : decode cX6_fewest 78 = .ok (.iload 5, 2) := by decide +kernel
theorem dX6_fewest_80 : decode cX6_fewest 80 = .ok (.goto 5, 3) := by decide +kernel
theorem dX6_fewest_83 : decode cX6_fewest 83 = .ok (.iload 4, 2) := by decide +kernel
theorem dX6_fewest_85 : decode cX6_fewest 85 = .ok (.istore 4, 2) := by decide +kernel
theorem dX6_fewest_87 : decode cX6_fewest 87 = .ok (.iinc 5 1, 3) := by decide +kernel
theorem dX6_fewest_90 : decode cX6_fewest 90 = .ok (.goto (-64), 3) := by decide +kernel
theorem dX6_fewest_93 : decode cX6_fewest 93 = .ok (.iload 4, 2) := by decide +kernel
theorem dX6_fewest_95 : decode cX6_fewest 95 = .ok (.ireturn, 1) := by decide +kernel
theorem dX6_takes__0 : decode cX6_takes_ 0 = .ok (.aload_n 0, 1) := by decide +kernel
theorem dX6_takes__1 : decode cX6_takes_ 1 = .ok (.iconst 0, 1) := by decide +kernel
theorem dX6_takes__2 : decode cX6_takes_ 2 = .ok (.putfield 93, 3) := by decide +kernel
theorem dX6_takes__5 : decode cX6_takes_ 5 = .ok (.aload_n 0, 1) := by decide +kernel
theorem dX6_takes__6 : decode cX6_takes_ 6 = .ok (.iload_n 1, 1) := by decide +kernel
theorem dX6_takes__7 : decode cX6_takes_ 7 = .ok (.invokevirtual 243, 3) := by decide +kernel
theorem dX6_takes__10 : decode cX6_takes_ 10 = .ok (.ifCond .eq 10, 3) := by decide +kernel
theorem dX6_takes__13 : decode cX6_takes_ 13 = .ok (.iload_n 2, 1) := by decide +kernel
theorem dX6_takes__14 : decode cX6_takes_ 14 = .ok (.invokestatic 208, 3) := by decide +kernel
theorem dX6_takes__17 : decode cX6_takes_ 17 = .ok (.ifCond .ne 7, 3) := by decide +kernel
theorem dX6_takes__20 : decode cX6_takes_ 20 = .ok (.ldc2_w 211, 3) := by decide +kernel
theorem dX6_takes__23 : decode cX6_takes_ 23 = .ok (.lreturn, 1) := by decide +kernel
theorem dX6_takes__24 : decode cX6_takes_ 24 = .ok (.aload_n 0, 1) := by decide +kernel
theorem dX6_takes__25 : decode cX6_takes_ 25 = .ok (.invokevirtual 246, 3) := by decide +kernel
theorem dX6_takes__28 : decode cX6_takes_ 28 = .ok (.aload_n 0, 1) := by decide +kernel
theorem dX6_takes__29 : decode cX6_takes_ 29 = .ok (.iload_n 1, 1) := by decide +kernel
theorem dX6_takes__30 : decode cX6_takes_ 30 = .ok (.iload_n 2, 1) := by decide +kernel
theorem dX6_takes__31 : decode cX6_takes_ 31 = .ok (.invokevirtual 266, 3) := by decide +kernel
theorem dX6_takes__34 : decode cX6_takes_ 34 = .ok (.lreturn, 1) := by decide +kernel
theorem dX6_first_0 : decode cX6_first 0 = .ok (.aload_n 0, 1) := by decide +kernel
theorem dX6_first_1 : decode cX6_first 1 = .ok (.iconst 0, 1) := by decide +kernel
theorem dX6_first_2 : decode cX6_first 2 = .ok (.putfield 93, 3) := by decide +kernel
theorem dX6_first_5 : decode cX6_first 5 = .ok (.aload_n 0, 1) := by decide +kernel
theorem dX6_first_6 : decode cX6_first 6 = .ok (.iload_n 1, 1) := by decide +kernel
theorem dX6_first_7 : decode cX6_first 7 = .ok (.invokevirtual 243, 3) := by decide +kernel
theorem dX6_first_10 : decode cX6_first 10 = .ok (.ifCond .eq 12, 3) := by decide +kernel
theorem dX6_first_13 : decode cX6_first 13 = .ok (.iload_n 2, 1) := by decide +kernel
theorem dX6_first_14 : decode cX6_first 14 = .ok (.iconst 0, 1) := by decide +kernel
theorem dX6_first_15 : decode cX6_first 15 = .ok (.iconst 1, 1) := by decide +kernel
theorem dX6_first_16 : decode cX6_first 16 = .ok (.invokestatic 97, 3) := by decide +kernel
theorem dX6_first_19 : decode cX6_first 19 = .ok (.ifCond .ne 5, 3) := by decide +kernel
theorem dX6_first_22 : decode cX6_first 22 = .ok (.iconst (-1), 1) := by decide +kernel
theorem dX6_first_23 : decode cX6_first 23 = .ok (.ireturn, 1) := by decide +kernel
theorem dX6_first_24 : decode cX6_first 24 = .ok (.aload_n 0, 1) := by decide +kernel
theorem dX6_first_25 : decode cX6_first 25 = .ok (.invokevirtual 246, 3) := by decide +kernel
theorem dX6_first_28 : decode cX6_first 28 = .ok (.iconst 0, 1) := by decide +kernel
theorem dX6_first_29 : decode cX6_first 29 = .ok (.istore_n 3, 1) := by decide +kernel
theorem dX6_first_30 : decode cX6_first 30 = .ok (.lconst 0, 1) := by decide +kernel
theorem dX6_first_31 : decode cX6_first 31 = .ok (.lstore 4, 2) := by decide +kernel
theorem dX6_first_33 : decode cX6_first 33 = .ok (.iconst 0, 1) := by decide +kernel
theorem dX6_first_34 : decode cX6_first 34 = .ok (.istore 6, 2) := by decide +kernel
theorem dX6_first_36 : decode cX6_first 36 = .ok (.iload 6, 2) := by decide +kernel
theorem dX6_first_38 : decode cX6_first 38 = .ok (.bipush 6, 2) := by decide +kernel
theorem dX6_first_40 : decode cX6_first 40 = .ok (.if_icmp .ge 74, 3) := by decide +kernel
theorem dX6_first_43 : decode cX6_first 43 = .ok (.iload_n 2, 1) := by decide +kernel
theorem dX6_first_44 : decode cX6_first 44 = .ok (.ifCond .ne 13, 3) := by decide +kernel
theorem dX6_first_47 : decode cX6_first 47 = .ok (.aload_n 0, 1) := by decide +kernel
theorem dX6_first_48 : decode cX6_first 48 = .ok (.iload_n 1, 1) := by decide +kernel
theorem dX6_first_49 : decode cX6_first 49 = .ok (.iload 6, 2) := by decide +kernel
theorem dX6_first_51 : decode cX6_first 51 = .ok (.invokevirtual 266, 3) := by decide +kernel
theorem dX6_first_54 : decode cX6_first 54 = .ok (.goto 10, 3) := by decide +kernel
theorem dX6_first_57 : decode cX6_first 57 = .ok (.aload_n 0, 1) := by decide +kernel
theorem dX6_first_58 : decode cX6_first 58 = .ok (.iload_n 1, 1) := by decide +kernel
theorem dX6_first_59 : decode cX6_first 59 = .ok (.iload 6, 2) := by decide +kernel
theorem dX6_first_61 : decode cX6_first 61 = .ok (.invokevirtual 260, 3) := by decide +kernel
theorem dX6_first_64 : decode cX6_first 64 = .ok (.lstore 7, 2) := by decide +kernel
theorem dX6_first_66 : decode cX6_first 66 = .ok (.iload 6, 2) := by decide +kernel
theorem dX6_first_68 : decode cX6_first 68 = .ok (.ifCond .eq 11, 3) := by decide +kernel
theorem dX6_first_71 : decode cX6_first 71 = .ok (.lload 7, 2) := by decide +kernel
theorem dX6_first_73 : decode cX6_first 73 = .ok (.lload 4, 2) := by decide +kernel
theorem dX6_first_75 : decode cX6_first 75 = .ok (.lcmp, 1) := by decide +kernel
theorem dX6_first_76 : decode cX6_first 76 = .ok (.ifCond .le 8, 3) := by decide +kernel
theorem dX6_first_79 : decode cX6_first 79 = .ok (.iload 6, 2) := by decide +kernel
theorem dX6_first_81 : decode cX6_first 81 = .ok (.goto 4, 3) := by decide +kernel
theorem dX6_first_84 : decode cX6_first 84 = .ok (.iload_n 3, 1) := by decide +kernel
theorem dX6_first_85 : decode cX6_first 85 = .ok (.istore_n 3, 1) := by decide +kernel
theorem dX6_first_86 : decode cX6_first 86 = .ok (.iload 6, 2) := by decide +kernel
theorem dX6_first_88 : decode cX6_first 88 = .ok (.ifCond .eq 11, 3) := by decide +kernel
theorem dX6_first_91 : decode cX6_first 91 = .ok (.lload 7, 2) := by decide +kernel
theorem dX6_first_93 : decode cX6_first 93 = .ok (.lload 4, 2) := by decide +kernel
theorem dX6_first_95 : decode cX6_first 95 = .ok (.lcmp, 1) := by decide +kernel
theorem dX6_first_96 : decode cX6_first 96 = .ok (.ifCond .le 8, 3) := by decide +kernel
theorem dX6_first_99 : decode cX6_first 99 = .ok (.lload 7, 2) := by decide +kernel
theorem dX6_first_101 : decode cX6_first 101 = .ok (.goto 5, 3) := by decide +kernel
theorem dX6_first_104 : decode cX6_first 104 = .ok (.lload 4, 2) := by decide +kernel
theorem dX6_first_106 : decode cX6_first 106 = .ok (.lstore 4, 2) := by decide +kernel
theorem dX6_first_108 : decode cX6_first 108 = .ok (.iinc 6 1, 3) := by decide +kernel
theorem dX6_first_111 : decode cX6_first 111 = .ok (.goto (-75), 3) := by decide +kernel
theorem dX6_first_114 : decode cX6_first 114 = .ok (.iload_n 3, 1) := by decide +kernel
theorem dX6_first_115 : decode cX6_first 115 = .ok (.ireturn, 1) := by decide +kernel
theorem dX6_valueIf_0 : decode cX6_valueIf 0 = .ok (.aload_n 0, 1) := by decide +kernel
theorem dX6_valueIf_1 : decode cX6_valueIf 1 = .ok (.getfield 46, 3) := by decide +kernel
theorem dX6_valueIf_4 : decode cX6_valueIf 4 = .ok (.iload_n 2, 1) := by decide +kernel
theorem dX6_valueIf_5 : decode cX6_valueIf 5 = .ok (.dup2, 1) := by decide +kernel
theorem dX6_valueIf_6 : decode cX6_valueIf 6 = .ok (.iaload, 1) := by decide +kernel
theorem dX6_valueIf_7 : decode cX6_valueIf 7 = .ok (.iload_n 3, 1) := by decide +kernel
theorem dX6_valueIf_8 : decode cX6_valueIf 8 = .ok (.iadd, 1) := by decide +kernel
theorem dX6_valueIf_9 : decode cX6_valueIf 9 = .ok (.iastore, 1) := by decide +kernel
theorem dX6_valueIf_10 : decode cX6_valueIf 10 = .ok (.aload_n 0, 1) := by decide +kernel
theorem dX6_valueIf_11 : decode cX6_valueIf 11 = .ok (.invokevirtual 246, 3) := by decide +kernel
theorem dX6_valueIf_14 : decode cX6_valueIf 14 = .ok (.aload_n 0, 1) := by decide +kernel
theorem dX6_valueIf_15 : decode cX6_valueIf 15 = .ok (.getfield 46, 3) := by decide +kernel
theorem dX6_valueIf_18 : decode cX6_valueIf 18 = .ok (.iload_n 2, 1) := by decide +kernel
theorem dX6_valueIf_19 : decode cX6_valueIf 19 = .ok (.dup2, 1) := by decide +kernel
theorem dX6_valueIf_20 : decode cX6_valueIf 20 = .ok (.iaload, 1) := by decide +kernel
theorem dX6_valueIf_21 : decode cX6_valueIf 21 = .ok (.iload_n 3, 1) := by decide +kernel
theorem dX6_valueIf_22 : decode cX6_valueIf 22 = .ok (.isub, 1) := by decide +kernel
theorem dX6_valueIf_23 : decode cX6_valueIf 23 = .ok (.iastore, 1) := by decide +kernel
theorem dX6_valueIf_24 : decode cX6_valueIf 24 = .ok (.aload_n 0, 1) := by decide +kernel
theorem dX6_valueIf_25 : decode cX6_valueIf 25 = .ok (.getfield 72, 3) := by decide +kernel
theorem dX6_valueIf_28 : decode cX6_valueIf 28 = .ok (.aload_n 0, 1) := by decide +kernel
theorem dX6_valueIf_29 : decode cX6_valueIf 29 = .ok (.iload_n 1, 1) := by decide +kernel
theorem dX6_valueIf_30 : decode cX6_valueIf 30 = .ok (.invokevirtual 229, 3) := by decide +kernel
theorem dX6_valueIf_33 : decode cX6_valueIf 33 = .ok (.laload, 1) := by decide +kernel
theorem dX6_valueIf_34 : decode cX6_valueIf 34 = .ok (.lreturn, 1) := by decide +kernel
theorem dX6_off_0 : decode cX6_off 0 = .ok (.aload_n 0, 1) := by decide +kernel
theorem dX6_off_1 : decode cX6_off 1 = .ok (.iconst 0, 1) := by decide +kernel
theorem dX6_off_2 : decode cX6_off 2 = .ok (.putfield 93, 3) := by decide +kernel
theorem dX6_off_5 : decode cX6_off 5 = .ok (.aload_n 0, 1) := by decide +kernel
theorem dX6_off_6 : decode cX6_off 6 = .ok (.iload_n 1, 1) := by decide +kernel
theorem dX6_off_7 : decode cX6_off 7 = .ok (.invokevirtual 243, 3) := by decide +kernel
theorem dX6_off_10 : decode cX6_off 10 = .ok (.ifCond .eq 21, 3) := by decide +kernel
theorem dX6_off_13 : decode cX6_off 13 = .ok (.iload_n 2, 1) := by decide +kernel
theorem dX6_off_14 : decode cX6_off 14 = .ok (.invokestatic 208, 3) := by decide +kernel
theorem dX6_off_17 : decode cX6_off 17 = .ok (.ifCond .eq 14, 3) := by decide +kernel
theorem dX6_off_20 : decode cX6_off 20 = .ok (.iload_n 3, 1) := by decide +kernel
theorem dX6_off_21 : decode cX6_off 21 = .ok (.bipush (-20), 2) := by decide +kernel
theorem dX6_off_23 : decode cX6_off 23 = .ok (.bipush 20, 2) := by decide +kernel
theorem dX6_off_25 : decode cX6_off 25 = .ok (.invokestatic 97, 3) := by decide +kernel
theorem dX6_off_28 : decode cX6_off 28 = .ok (.ifCond .ne 7, 3) := by decide +kernel
theorem dX6_off_31 : decode cX6_off 31 = .ok (.ldc2_w 211, 3) := by decide +kernel
theorem dX6_off_34 : decode cX6_off 34 = .ok (.lreturn, 1) := by decide +kernel
theorem dX6_off_35 : decode cX6_off 35 = .ok (.aload_n 0, 1) := by decide +kernel
theorem dX6_off_36 : decode cX6_off 36 = .ok (.iload_n 1, 1) := by decide +kernel
theorem dX6_off_37 : decode cX6_off 37 = .ok (.iload_n 2, 1) := by decide +kernel
theorem dX6_off_38 : decode cX6_off 38 = .ok (.iload_n 3, 1) := by decide +kernel
theorem dX6_off_39 : decode cX6_off 39 = .ok (.invokevirtual 269, 3) := by decide +kernel
theorem dX6_off_42 : decode cX6_off 42 = .ok (.lstore 4, 2) := by decide +kernel
theorem dX6_off_44 : decode cX6_off 44 = .ok (.aload_n 0, 1) := by decide +kernel
theorem dX6_off_45 : decode cX6_off 45 = .ok (.invokevirtual 246, 3) := by decide +kernel
theorem dX6_off_48 : decode cX6_off 48 = .ok (.lload 4, 2) := by decide +kernel
theorem dX6_off_50 : decode cX6_off 50 = .ok (.aload_n 0, 1) := by decide +kernel
theorem dX6_off_51 : decode cX6_off 51 = .ok (.getfield 72, 3) := by decide +kernel
theorem dX6_off_54 : decode cX6_off 54 = .ok (.aload_n 0, 1) := by decide +kernel
theorem dX6_off_55 : decode cX6_off 55 = .ok (.iload_n 1, 1) := by decide +kernel
theorem dX6_off_56 : decode cX6_off 56 = .ok (.invokevirtual 229, 3) := by decide +kernel
theorem dX6_off_59 : decode cX6_off 59 = .ok (.laload, 1) := by decide +kernel
theorem dX6_off_60 : decode cX6_off 60 = .ok (.lsub, 1) := by decide +kernel
theorem dX6_off_61 : decode cX6_off 61 = .ok (.iload_n 3, 1) := by decide +kernel
theorem dX6_off_62 : decode cX6_off 62 = .ok (.i2l, 1) := by decide +kernel
theorem dX6_off_63 : decode cX6_off 63 = .ok (.aload_n 0, 1) := by decide +kernel
theorem dX6_off_64 : decode cX6_off 64 = .ok (.iload_n 1, 1) := by decide +kernel
theorem dX6_off_65 : decode cX6_off 65 = .ok (.iload_n 2, 1) := by decide +kernel
theorem dX6_off_66 : decode cX6_off 66 = .ok (.invokevirtual 249, 3) := by decide +kernel
theorem dX6_off_69 : decode cX6_off 69 = .ok (.lmul, 1) := by decide +kernel
theorem dX6_off_70 : decode cX6_off 70 = .ok (.lsub, 1) := by decide +kernel
theorem dX6_off_71 : decode cX6_off 71 = .ok (.lreturn, 1) := by decide +kernel
theorem dX6_sees_0 : decode cX6_sees 0 = .ok (.aload_n 0, 1) := by decide +kernel
theorem dX6_sees_1 : decode cX6_sees 1 = .ok (.iconst 0, 1) := by decide +kernel
theorem dX6_sees_2 : decode cX6_sees 2 = .ok (.putfield 93, 3) := by decide +kernel
theorem dX6_sees_5 : decode cX6_sees 5 = .ok (.aload_n 0, 1) := by decide +kernel
theorem dX6_sees_6 : decode cX6_sees 6 = .ok (.iload_n 1, 1) := by decide +kernel
theorem dX6_sees_7 : decode cX6_sees 7 = .ok (.invokevirtual 243, 3) := by decide +kernel
theorem dX6_sees_10 : decode cX6_sees 10 = .ok (.ifCond .ne 5, 3) := by decide +kernel
theorem dX6_sees_13 : decode cX6_sees 13 = .ok (.iconst (-1), 1) := by decide +kernel
theorem dX6_sees_14 : decode cX6_sees 14 = .ok (.ireturn, 1) := by decide +kernel
theorem dX6_sees_15 : decode cX6_sees 15 = .ok (.aload_n 0, 1) := by decide +kernel
theorem dX6_sees_16 : decode cX6_sees 16 = .ok (.getfield 202, 3) := by decide +kernel
theorem dX6_sees_19 : decode cX6_sees 19 = .ok (.bipush 6, 2) := by decide +kernel
theorem dX6_sees_21 : decode cX6_sees 21 = .ok (.if_icmp .ne 6, 3) := by decide +kernel
theorem dX6_sees_24 : decode cX6_sees 24 = .ok (.bipush (-3), 2) := by decide +kernel
theorem dX6_sees_26 : decode cX6_sees 26 = .ok (.ireturn, 1) := by decide +kernel
theorem dX6_sees_27 : decode cX6_sees 27 = .ok (.aload_n 0, 1) := by decide +kernel
theorem dX6_sees_28 : decode cX6_sees 28 = .ok (.getfield 59, 3) := by decide +kernel
theorem dX6_sees_31 : decode cX6_sees 31 = .ok (.aload_n 0, 1) := by decide +kernel
theorem dX6_sees_32 : decode cX6_sees 32 = .ok (.getfield 202, 3) := by decide +kernel
theorem dX6_sees_35 : decode cX6_sees 35 = .ok (.iload_n 1, 1) := by decide +kernel
theorem dX6_sees_36 : decode cX6_sees 36 = .ok (.iastore, 1) := by decide +kernel
theorem dX6_sees_37 : decode cX6_sees 37 = .ok (.aload_n 0, 1) := by decide +kernel
theorem dX6_sees_38 : decode cX6_sees 38 = .ok (.getfield 62, 3) := by decide +kernel
theorem dX6_sees_41 : decode cX6_sees 41 = .ok (.aload_n 0, 1) := by decide +kernel
theorem dX6_sees_42 : decode cX6_sees 42 = .ok (.getfield 202, 3) := by decide +kernel
theorem dX6_sees_45 : decode cX6_sees 45 = .ok (.lload_n 2, 1) := by decide +kernel
theorem dX6_sees_46 : decode cX6_sees 46 = .ok (.lastore, 1) := by decide +kernel
theorem dX6_sees_47 : decode cX6_sees 47 = .ok (.aload_n 0, 1) := by decide +kernel
theorem dX6_sees_48 : decode cX6_sees 48 = .ok (.dup, 1) := by decide +kernel
theorem dX6_sees_49 : decode cX6_sees 49 = .ok (.getfield 202, 3) := by decide +kernel
theorem dX6_sees_52 : decode cX6_sees 52 = .ok (.iconst 1, 1) := by decide +kernel
theorem dX6_sees_53 : decode cX6_sees 53 = .ok (.iadd, 1) := by decide +kernel
theorem dX6_sees_54 : decode cX6_sees 54 = .ok (.putfield 202, 3) := by decide +kernel
theorem dX6_sees_57 : decode cX6_sees 57 = .ok (.aload_n 0, 1) := by decide +kernel
theorem dX6_sees_58 : decode cX6_sees 58 = .ok (.getfield 202, 3) := by decide +kernel
theorem dX6_sees_61 : decode cX6_sees 61 = .ok (.ireturn, 1) := by decide +kernel
theorem dX6_forget_0 : decode cX6_forget 0 = .ok (.aload_n 0, 1) := by decide +kernel
theorem dX6_forget_1 : decode cX6_forget 1 = .ok (.iconst 0, 1) := by decide +kernel
theorem dX6_forget_2 : decode cX6_forget 2 = .ok (.putfield 93, 3) := by decide +kernel
theorem dX6_forget_5 : decode cX6_forget 5 = .ok (.aload_n 0, 1) := by decide +kernel
theorem dX6_forget_6 : decode cX6_forget 6 = .ok (.getfield 202, 3) := by decide +kernel
theorem dX6_forget_9 : decode cX6_forget 9 = .ok (.istore_n 1, 1) := by decide +kernel
theorem dX6_forget_10 : decode cX6_forget 10 = .ok (.aload_n 0, 1) := by decide +kernel
theorem dX6_forget_11 : decode cX6_forget 11 = .ok (.iconst 0, 1) := by decide +kernel
theorem dX6_forget_12 : decode cX6_forget 12 = .ok (.putfield 202, 3) := by decide +kernel
theorem dX6_forget_15 : decode cX6_forget 15 = .ok (.iload_n 1, 1) := by decide +kernel
theorem dX6_forget_16 : decode cX6_forget 16 = .ok (.ireturn, 1) := by decide +kernel
theorem dX6_unseen_0 : decode cX6_unseen 0 = .ok (.aload_n 0, 1) := by decide +kernel
theorem dX6_unseen_1 : decode cX6_unseen 1 = .ok (.iconst 0, 1) := by decide +kernel
theorem dX6_unseen_2 : decode cX6_unseen 2 = .ok (.putfield 93, 3) := by decide +kernel
theorem dX6_unseen_5 : decode cX6_unseen 5 = .ok (.iload_n 1, 1) := by decide +kernel
theorem dX6_unseen_6 : decode cX6_unseen 6 = .ok (.bipush (-20), 2) := by decide +kernel
theorem dX6_unseen_8 : decode cX6_unseen 8 = .ok (.bipush 20, 2) := by decide +kernel
theorem dX6_unseen_10 : decode cX6_unseen 10 = .ok (.invokestatic 97, 3) := by decide +kernel
theorem dX6_unseen_13 : decode cX6_unseen 13 = .ok (.ifCond .ne 5, 3) := by decide +kernel
theorem dX6_unseen_16 : decode cX6_unseen 16 = .ok (.iconst (-1), 1) := by decide +kernel
theorem dX6_unseen_17 : decode cX6_unseen 17 = .ok (.ireturn, 1) := by decide +kernel
theorem dX6_unseen_18 : decode cX6_unseen 18 = .ok (.iconst 0, 1) := by decide +kernel
theorem dX6_unseen_19 : decode cX6_unseen 19 = .ok (.istore_n 2, 1) := by decide +kernel
theorem dX6_unseen_20 : decode cX6_unseen 20 = .ok (.iconst 0, 1) := by decide +kernel
theorem dX6_unseen_21 : decode cX6_unseen 21 = .ok (.istore_n 3, 1) := by decide +kernel
theorem dX6_unseen_22 : decode cX6_unseen 22 = .ok (.iload_n 3, 1) := by decide +kernel
theorem dX6_unseen_23 : decode cX6_unseen 23 = .ok (.bipush 6, 2) := by decide +kernel
theorem dX6_unseen_25 : decode cX6_unseen 25 = .ok (.if_icmp .ge 81, 3) := by decide +kernel
theorem dX6_unseen_28 : decode cX6_unseen 28 = .ok (.iconst 1, 1) := by decide +kernel
theorem dX6_unseen_29 : decode cX6_unseen 29 = .ok (.istore 4, 2) := by decide +kernel
theorem dX6_unseen_31 : decode cX6_unseen 31 = .ok (.iconst 0, 1) := by decide +kernel
theorem dX6_unseen_32 : decode cX6_unseen 32 = .ok (.istore 5, 2) := by decide +kernel
theorem dX6_unseen_34 : decode cX6_unseen 34 = .ok (.iload 5, 2) := by decide +kernel
theorem dX6_unseen_36 : decode cX6_unseen 36 = .ok (.aload_n 0, 1) := by decide +kernel
theorem dX6_unseen_37 : decode cX6_unseen 37 = .ok (.getfield 202, 3) := by decide +kernel
theorem dX6_unseen_40 : decode cX6_unseen 40 = .ok (.if_icmp .ge 45, 3) := by decide +kernel
theorem dX6_unseen_43 : decode cX6_unseen 43 = .ok (.iload 4, 2) := by decide +kernel
theorem dX6_unseen_45 : decode cX6_unseen 45 = .ok (.ifCond .eq 31, 3) := by decide +kernel
theorem dX6_unseen_48 : decode cX6_unseen 48 = .ok (.aload_n 0, 1) := by decide +kernel
theorem dX6_unseen_49 : decode cX6_unseen 49 = .ok (.aload_n 0, 1) := by decide +kernel
theorem dX6_unseen_50 : decode cX6_unseen 50 = .ok (.getfield 59, 3) := by decide +kernel
theorem dX6_unseen_53 : decode cX6_unseen 53 = .ok (.iload 5, 2) := by decide +kernel
theorem dX6_unseen_55 : decode cX6_unseen 55 = .ok (.iaload, 1) := by decide +kernel
theorem dX6_unseen_56 : decode cX6_unseen 56 = .ok (.iload_n 3, 1) := by decide +kernel
theorem dX6_unseen_57 : decode cX6_unseen 57 = .ok (.iload_n 1, 1) := by decide +kernel
theorem dX6_unseen_58 : decode cX6_unseen 58 = .ok (.invokevirtual 269, 3) := by decide +kernel
theorem dX6_unseen_61 : decode cX6_unseen 61 = .ok (.aload_n 0, 1) := by decide +kernel
theorem dX6_unseen_62 : decode cX6_unseen 62 = .ok (.getfield 62, 3) := by decide +kernel
theorem dX6_unseen_65 : decode cX6_unseen 65 = .ok (.iload 5, 2) := by decide +kernel
theorem dX6_unseen_67 : decode cX6_unseen 67 = .ok (.laload, 1) := by decide +kernel
theorem dX6_unseen_68 : decode cX6_unseen 68 = .ok (.lcmp, 1) := by decide +kernel
theorem dX6_unseen_69 : decode cX6_unseen 69 = .ok (.ifCond .ne 7, 3) := by decide +kernel
theorem dX6_unseen_72 : decode cX6_unseen 72 = .ok (.iconst 1, 1) := by decide +kernel
theorem dX6_unseen_73 : decode cX6_unseen 73 = .ok (.goto 4, 3) := by decide +kernel
theorem dX6_unseen_76 : decode cX6_unseen 76 = .ok (.iconst 0, 1) := by decide +kernel
theorem dX6_unseen_77 : decode cX6_unseen 77 = .ok (.istore 4, 2) := by decide +kernel
theorem dX6_unseen_79 : decode cX6_unseen 79 = .ok (.iinc 5 1, 3) := by decide +kernel
theorem dX6_unseen_82 : decode cX6_unseen 82 = .ok (.goto (-48), 3) := by decide +kernel
theorem dX6_unseen_85 : decode cX6_unseen 85 = .ok (.iload_n 2, 1) := by decide +kernel
theorem dX6_unseen_86 : decode cX6_unseen 86 = .ok (.iload 4, 2) := by decide +kernel
theorem dX6_unseen_88 : decode cX6_unseen 88 = .ok (.ifCond .eq 9, 3) := by decide +kernel
theorem dX6_unseen_91 : decode cX6_unseen 91 = .ok (.iconst 1, 1) := by decide +kernel
theorem dX6_unseen_92 : decode cX6_unseen 92 = .ok (.iload_n 3, 1) := by decide +kernel
theorem dX6_unseen_93 : decode cX6_unseen 93 = .ok (.ishl, 1) := by decide +kernel
theorem dX6_unseen_94 : decode cX6_unseen 94 = .ok (.goto 4, 3) := by decide +kernel
theorem dX6_unseen_97 : decode cX6_unseen 97 = .ok (.iconst 0, 1) := by decide +kernel
theorem dX6_unseen_98 : decode cX6_unseen 98 = .ok (.ior, 1) := by decide +kernel
theorem dX6_unseen_99 : decode cX6_unseen 99 = .ok (.istore_n 2, 1) := by decide +kernel
theorem dX6_unseen_100 : decode cX6_unseen 100 = .ok (.iinc 3 1, 3) := by decide +kernel
theorem dX6_unseen_103 : decode cX6_unseen 103 = .ok (.goto (-81), 3) := by decide +kernel
theorem dX6_unseen_106 : decode cX6_unseen 106 = .ok (.iload_n 2, 1) := by decide +kernel
theorem dX6_unseen_107 : decode cX6_unseen 107 = .ok (.ireturn, 1) := by decide +kernel
theorem dX6_keep_0 : decode cX6_keep 0 = .ok (.aload_n 0, 1) := by decide +kernel
theorem dX6_keep_1 : decode cX6_keep 1 = .ok (.iconst 0, 1) := by decide +kernel
theorem dX6_keep_2 : decode cX6_keep 2 = .ok (.putfield 93, 3) := by decide +kernel
theorem dX6_keep_5 : decode cX6_keep 5 = .ok (.iload_n 1, 1) := by decide +kernel
theorem dX6_keep_6 : decode cX6_keep 6 = .ok (.iconst 0, 1) := by decide +kernel
theorem dX6_keep_7 : decode cX6_keep 7 = .ok (.iconst 1, 1) := by decide +kernel
theorem dX6_keep_8 : decode cX6_keep 8 = .ok (.invokestatic 97, 3) := by decide +kernel
theorem dX6_keep_11 : decode cX6_keep 11 = .ok (.ifCond .ne 5, 3) := by decide +kernel
theorem dX6_keep_14 : decode cX6_keep 14 = .ok (.iconst (-1), 1) := by decide +kernel
theorem dX6_keep_15 : decode cX6_keep 15 = .ok (.ireturn, 1) := by decide +kernel
theorem dX6_keep_16 : decode cX6_keep 16 = .ok (.iconst 0, 1) := by decide +kernel
theorem dX6_keep_17 : decode cX6_keep 17 = .ok (.istore_n 2, 1) := by decide +kernel
theorem dX6_keep_18 : decode cX6_keep 18 = .ok (.iload_n 2, 1) := by decide +kernel
theorem dX6_keep_19 : decode cX6_keep 19 = .ok (.bipush 48, 2) := by decide +kernel
theorem dX6_keep_21 : decode cX6_keep 21 = .ok (.if_icmp .ge 26, 3) := by decide +kernel
theorem dX6_keep_24 : decode cX6_keep 24 = .ok (.aload_n 0, 1) := by decide +kernel
theorem dX6_keep_25 : decode cX6_keep 25 = .ok (.getfield 52, 3) := by decide +kernel
theorem dX6_keep_28 : decode cX6_keep 28 = .ok (.bipush 48, 2) := by decide +kernel
theorem dX6_keep_30 : decode cX6_keep 30 = .ok (.iload_n 1, 1) := by decide +kernel
theorem dX6_keep_31 : decode cX6_keep 31 = .ok (.imul, 1) := by decide +kernel
theorem dX6_keep_32 : decode cX6_keep 32 = .ok (.iload_n 2, 1) := by decide +kernel
theorem dX6_keep_33 : decode cX6_keep 33 = .ok (.iadd, 1) := by decide +kernel
theorem dX6_keep_34 : decode cX6_keep 34 = .ok (.aload_n 0, 1) := by decide +kernel
theorem dX6_keep_35 : decode cX6_keep 35 = .ok (.getfield 46, 3) := by decide +kernel
theorem dX6_keep_38 : decode cX6_keep 38 = .ok (.iload_n 2, 1) := by decide +kernel
theorem dX6_keep_39 : decode cX6_keep 39 = .ok (.iaload, 1) := by decide +kernel
theorem dX6_keep_40 : decode cX6_keep 40 = .ok (.iastore, 1) := by decide +kernel
theorem dX6_keep_41 : decode cX6_keep 41 = .ok (.iinc 2 1, 3) := by decide +kernel
theorem dX6_keep_44 : decode cX6_keep 44 = .ok (.goto (-26), 3) := by decide +kernel
theorem dX6_keep_47 : decode cX6_keep 47 = .ok (.aload_n 0, 1) := by decide +kernel
theorem dX6_keep_48 : decode cX6_keep 48 = .ok (.getfield 55, 3) := by decide +kernel
theorem dX6_keep_51 : decode cX6_keep 51 = .ok (.iload_n 1, 1) := by decide +kernel
theorem dX6_keep_52 : decode cX6_keep 52 = .ok (.iconst 1, 1) := by decide +kernel
theorem dX6_keep_53 : decode cX6_keep 53 = .ok (.bastore, 1) := by decide +kernel
theorem dX6_keep_54 : decode cX6_keep 54 = .ok (.aload_n 0, 1) := by decide +kernel
theorem dX6_keep_55 : decode cX6_keep 55 = .ok (.getfield 199, 3) := by decide +kernel
theorem dX6_keep_58 : decode cX6_keep 58 = .ok (.ireturn, 1) := by decide +kernel
theorem dX6_back_0 : decode cX6_back 0 = .ok (.aload_n 0, 1) := by decide +kernel
theorem dX6_back_1 : decode cX6_back 1 = .ok (.iconst 0, 1) := by decide +kernel
theorem dX6_back_2 : decode cX6_back 2 = .ok (.putfield 93, 3) := by decide +kernel
theorem dX6_back_5 : decode cX6_back 5 = .ok (.iload_n 1, 1) := by decide +kernel
theorem dX6_back_6 : decode cX6_back 6 = .ok (.iconst 0, 1) := by decide +kernel
theorem dX6_back_7 : decode cX6_back 7 = .ok (.iconst 1, 1) := by decide +kernel
theorem dX6_back_8 : decode cX6_back 8 = .ok (.invokestatic 97, 3) := by decide +kernel
theorem dX6_back_11 : decode cX6_back 11 = .ok (.ifCond .ne 5, 3) := by decide +kernel
theorem dX6_back_14 : decode cX6_back 14 = .ok (.iconst (-1), 1) := by decide +kernel
theorem dX6_back_15 : decode cX6_back 15 = .ok (.ireturn, 1) := by decide +kernel
theorem dX6_back_16 : decode cX6_back 16 = .ok (.aload_n 0, 1) := by decide +kernel
theorem dX6_back_17 : decode cX6_back 17 = .ok (.getfield 55, 3) := by decide +kernel
theorem dX6_back_20 : decode cX6_back 20 = .ok (.iload_n 1, 1) := by decide +kernel
theorem dX6_back_21 : decode cX6_back 21 = .ok (.baload, 1) := by decide +kernel
theorem dX6_back_22 : decode cX6_back 22 = .ok (.ifCond .ne 6, 3) := by decide +kernel
theorem dX6_back_25 : decode cX6_back 25 = .ok (.bipush (-2), 2) := by decide +kernel
theorem dX6_back_27 : decode cX6_back 27 = .ok (.ireturn, 1) := by decide +kernel
theorem dX6_back_28 : decode cX6_back 28 = .ok (.iconst 0, 1) := by decide +kernel
theorem dX6_back_29 : decode cX6_back 29 = .ok (.istore_n 2, 1) := by decide +kernel
theorem dX6_back_30 : decode cX6_back 30 = .ok (.iload_n 2, 1) := by decide +kernel
theorem dX6_back_31 : decode cX6_back 31 = .ok (.bipush 48, 2) := by decide +kernel
theorem dX6_back_33 : decode cX6_back 33 = .ok (.if_icmp .ge 26, 3) := by decide +kernel
theorem dX6_back_36 : decode cX6_back 36 = .ok (.aload_n 0, 1) := by decide +kernel
theorem dX6_back_37 : decode cX6_back 37 = .ok (.getfield 46, 3) := by decide +kernel
theorem dX6_back_40 : decode cX6_back 40 = .ok (.iload_n 2, 1) := by decide +kernel
theorem dX6_back_41 : decode cX6_back 41 = .ok (.aload_n 0, 1) := by decide +kernel
theorem dX6_back_42 : decode cX6_back 42 = .ok (.getfield 52, 3) := by decide +kernel
theorem dX6_back_45 : decode cX6_back 45 = .ok (.bipush 48, 2) := by decide +kernel
theorem dX6_back_47 : decode cX6_back 47 = .ok (.iload_n 1, 1) := by decide +kernel
theorem dX6_back_48 : decode cX6_back 48 = .ok (.imul, 1) := by decide +kernel
theorem dX6_back_49 : decode cX6_back 49 = .ok (.iload_n 2, 1) := by decide +kernel
theorem dX6_back_50 : decode cX6_back 50 = .ok (.iadd, 1) := by decide +kernel
theorem dX6_back_51 : decode cX6_back 51 = .ok (.iaload, 1) := by decide +kernel
theorem dX6_back_52 : decode cX6_back 52 = .ok (.iastore, 1) := by decide +kernel
theorem dX6_back_53 : decode cX6_back 53 = .ok (.iinc 2 1, 3) := by decide +kernel
theorem dX6_back_56 : decode cX6_back 56 = .ok (.goto (-26), 3) := by decide +kernel
theorem dX6_back_59 : decode cX6_back 59 = .ok (.aload_n 0, 1) := by decide +kernel
theorem dX6_back_60 : decode cX6_back 60 = .ok (.iconst 0, 1) := by decide +kernel
theorem dX6_back_61 : decode cX6_back 61 = .ok (.putfield 205, 3) := by decide +kernel
theorem dX6_back_64 : decode cX6_back 64 = .ok (.aload_n 0, 1) := by decide +kernel
theorem dX6_back_65 : decode cX6_back 65 = .ok (.getfield 199, 3) := by decide +kernel
theorem dX6_back_68 : decode cX6_back 68 = .ok (.ireturn, 1) := by decide +kernel
theorem dX6_formula_0 : decode cX6_formula 0 = .ok (.aload_n 0, 1) := by decide +kernel
theorem dX6_formula_1 : decode cX6_formula 1 = .ok (.iconst 0, 1) := by decide +kernel
theorem dX6_formula_2 : decode cX6_formula 2 = .ok (.putfield 93, 3) := by decide +kernel
theorem dX6_formula_5 : decode cX6_formula 5 = .ok (.aload_n 0, 1) := by decide +kernel
theorem dX6_formula_6 : decode cX6_formula 6 = .ok (.iload_n 1, 1) := by decide +kernel
theorem dX6_formula_7 : decode cX6_formula 7 = .ok (.invokevirtual 243, 3) := by decide +kernel
theorem dX6_formula_10 : decode cX6_formula 10 = .ok (.ifCond .eq 12, 3) := by decide +kernel
theorem dX6_formula_13 : decode cX6_formula 13 = .ok (.iload_n 2, 1) := by decide +kernel
theorem dX6_formula_14 : decode cX6_formula 14 = .ok (.iconst 0, 1) := by decide +kernel
theorem dX6_formula_15 : decode cX6_formula 15 = .ok (.iconst 2, 1) := by decide +kernel
theorem dX6_formula_16 : decode cX6_formula 16 = .ok (.invokestatic 97, 3) := by decide +kernel
theorem dX6_formula_19 : decode cX6_formula 19 = .ok (.ifCond .ne 5, 3) := by decide +kernel
theorem dX6_formula_22 : decode cX6_formula 22 = .ok (.iconst (-1), 1) := by decide +kernel
theorem dX6_formula_23 : decode cX6_formula 23 = .ok (.ireturn, 1) := by decide +kernel
theorem dX6_formula_24 : decode cX6_formula 24 = .ok (.iconst 0, 1) := by decide +kernel
theorem dX6_formula_25 : decode cX6_formula 25 = .ok (.istore_n 3, 1) := by decide +kernel
theorem dX6_formula_26 : decode cX6_formula 26 = .ok (.iload_n 3, 1) := by decide +kernel
theorem dX6_formula_27 : decode cX6_formula 27 = .ok (.iload_n 1, 1) := by decide +kernel
theorem dX6_formula_28 : decode cX6_formula 28 = .ok (.if_icmp .gt 151, 3) := by decide +kernel
theorem dX6_formula_31 : decode cX6_formula 31 = .ok (.aload_n 0, 1) := by decide +kernel
theorem dX6_formula_32 : decode cX6_formula 32 = .ok (.getfield 81, 3) := by decide +kernel
theorem dX6_formula_35 : decode cX6_formula 35 = .ok (.iload_n 3, 1) := by decide +kernel
theorem dX6_formula_36 : decode cX6_formula 36 = .ok (.aload_n 0, 1) := by decide +kernel
theorem dX6_formula_37 : decode cX6_formula 37 = .ok (.getfield 13, 3) := by decide +kernel
theorem dX6_formula_40 : decode cX6_formula 40 = .ok (.iload_n 3, 1) := by decide +kernel
theorem dX6_formula_41 : decode cX6_formula 41 = .ok (.iaload, 1) := by decide +kernel
theorem dX6_formula_42 : decode cX6_formula 42 = .ok (.iastore, 1) := by decide +kernel
theorem dX6_formula_43 : decode cX6_formula 43 = .ok (.aload_n 0, 1) := by decide +kernel
theorem dX6_formula_44 : decode cX6_formula 44 = .ok (.getfield 84, 3) := by decide +kernel
theorem dX6_formula_47 : decode cX6_formula 47 = .ok (.iload_n 3, 1) := by decide +kernel
theorem dX6_formula_48 : decode cX6_formula 48 = .ok (.iconst 0, 1) := by decide +kernel
theorem dX6_formula_49 : decode cX6_formula 49 = .ok (.iastore, 1) := by decide +kernel
theorem dX6_formula_50 : decode cX6_formula 50 = .ok (.bipush 20, 2) := by decide +kernel
theorem dX6_formula_52 : decode cX6_formula 52 = .ok (.iload_n 3, 1) := by decide +kernel
theorem dX6_formula_53 : decode cX6_formula 53 = .ok (.imul, 1) := by decide +kernel
theorem dX6_formula_54 : decode cX6_formula 54 = .ok (.istore 4, 2) := by decide +kernel
theorem dX6_formula_56 : decode cX6_formula 56 = .ok (.iload 4, 2) := by decide +kernel
theorem dX6_formula_58 : decode cX6_formula 58 = .ok (.bipush 20, 2) := by decide +kernel
theorem dX6_formula_60 : decode cX6_formula 60 = .ok (.iload_n 3, 1) := by decide +kernel
theorem dX6_formula_61 : decode cX6_formula 61 = .ok (.imul, 1) := by decide +kernel
theorem dX6_formula_62 : decode cX6_formula 62 = .ok (.aload_n 0, 1) := by decide +kernel
theorem dX6_formula_63 : decode cX6_formula 63 = .ok (.getfield 13, 3) := by decide +kernel
theorem dX6_formula_66 : decode cX6_formula 66 = .ok (.iload_n 3, 1) := by decide +kernel
theorem dX6_formula_67 : decode cX6_formula 67 = .ok (.iaload, 1) := by decide +kernel
theorem dX6_formula_68 : decode cX6_formula 68 = .ok (.iadd, 1) := by decide +kernel
theorem dX6_formula_69 : decode cX6_formula 69 = .ok (.if_icmp .ge 104, 3) := by decide +kernel
theorem dX6_formula_72 : decode cX6_formula 72 = .ok (.aload_n 0, 1) := by decide +kernel
theorem dX6_formula_73 : decode cX6_formula 73 = .ok (.getfield 81, 3) := by decide +kernel
theorem dX6_formula_76 : decode cX6_formula 76 = .ok (.iload_n 3, 1) := by decide +kernel
theorem dX6_formula_77 : decode cX6_formula 77 = .ok (.dup2, 1) := by decide +kernel
theorem dX6_formula_78 : decode cX6_formula 78 = .ok (.iaload, 1) := by decide +kernel
theorem dX6_formula_79 : decode cX6_formula 79 = .ok (.aload_n 0, 1) := by decide +kernel
theorem dX6_formula_80 : decode cX6_formula 80 = .ok (.getfield 16, 3) := by decide +kernel
theorem dX6_formula_83 : decode cX6_formula 83 = .ok (.iload 4, 2) := by decide +kernel
theorem dX6_formula_85 : decode cX6_formula 85 = .ok (.iaload, 1) := by decide +kernel
theorem dX6_formula_86 : decode cX6_formula 86 = .ok (.iconst 2, 1) := by decide +kernel
theorem dX6_formula_87 : decode cX6_formula 87 = .ok (.if_icmp .ne 18, 3) := by decide +kernel
theorem dX6_formula_90 : decode cX6_formula 90 = .ok (.aload_n 0, 1) := by decide +kernel
theorem dX6_formula_91 : decode cX6_formula 91 = .ok (.getfield 81, 3) := by decide +kernel
theorem dX6_formula_94 : decode cX6_formula 94 = .ok (.aload_n 0, 1) := by decide +kernel
theorem dX6_formula_95 : decode cX6_formula 95 = .ok (.getfield 19, 3) := by decide +kernel
theorem dX6_formula_98 : decode cX6_formula 98 = .ok (.iload 4, 2) := by decide +kernel
theorem dX6_formula_100 : decode cX6_formula 100 = .ok (.iaload, 1) := by decide +kernel
theorem dX6_formula_101 : decode cX6_formula 101 = .ok (.iaload, 1) := by decide +kernel
theorem dX6_formula_102 : decode cX6_formula 102 = .ok (.goto 4, 3) := by decide +kernel
theorem dX6_formula_105 : decode cX6_formula 105 = .ok (.iconst 0, 1) := by decide +kernel
theorem dX6_formula_106 : decode cX6_formula 106 = .ok (.iadd, 1) := by decide +kernel
theorem dX6_formula_107 : decode cX6_formula 107 = .ok (.iastore, 1) := by decide +kernel
theorem dX6_formula_108 : decode cX6_formula 108 = .ok (.aload_n 0, 1) := by decide +kernel
theorem dX6_formula_109 : decode cX6_formula 109 = .ok (.getfield 84, 3) := by decide +kernel
theorem dX6_formula_112 : decode cX6_formula 112 = .ok (.iload_n 3, 1) := by decide +kernel
theorem dX6_formula_113 : decode cX6_formula 113 = .ok (.dup2, 1) := by decide +kernel
theorem dX6_formula_114 : decode cX6_formula 114 = .ok (.iaload, 1) := by decide +kernel
theorem dX6_formula_115 : decode cX6_formula 115 = .ok (.aload_n 0, 1) := by decide +kernel
theorem dX6_formula_116 : decode cX6_formula 116 = .ok (.getfield 16, 3) := by decide +kernel
theorem dX6_formula_119 : decode cX6_formula 119 = .ok (.iload 4, 2) := by decide +kernel
theorem dX6_formula_121 : decode cX6_formula 121 = .ok (.iaload, 1) := by decide +kernel
theorem dX6_formula_122 : decode cX6_formula 122 = .ok (.iconst 2, 1) := by decide +kernel
theorem dX6_formula_123 : decode cX6_formula 123 = .ok (.if_icmp .ne 18, 3) := by decide +kernel
theorem dX6_formula_126 : decode cX6_formula 126 = .ok (.aload_n 0, 1) := by decide +kernel
theorem dX6_formula_127 : decode cX6_formula 127 = .ok (.getfield 84, 3) := by decide +kernel
theorem dX6_formula_130 : decode cX6_formula 130 = .ok (.aload_n 0, 1) := by decide +kernel
theorem dX6_formula_131 : decode cX6_formula 131 = .ok (.getfield 19, 3) := by decide +kernel
theorem dX6_formula_134 : decode cX6_formula 134 = .ok (.iload 4, 2) := by decide +kernel
theorem dX6_formula_136 : decode cX6_formula 136 = .ok (.iaload, 1) := by decide +kernel
theorem dX6_formula_137 : decode cX6_formula 137 = .ok (.iaload, 1) := by decide +kernel
theorem dX6_formula_138 : decode cX6_formula 138 = .ok (.goto 27, 3) := by decide +kernel
theorem dX6_formula_141 : decode cX6_formula 141 = .ok (.aload_n 0, 1) := by decide +kernel
theorem dX6_formula_142 : decode cX6_formula 142 = .ok (.getfield 16, 3) := by decide +kernel
theorem dX6_formula_145 : decode cX6_formula 145 = .ok (.iload 4, 2) := by decide +kernel
theorem dX6_formula_147 : decode cX6_formula 147 = .ok (.iaload, 1) := by decide +kernel
theorem dX6_formula_148 : decode cX6_formula 148 = .ok (.iconst 1, 1) := by decide +kernel
theorem dX6_formula_149 : decode cX6_formula 149 = .ok (.if_icmp .ne 15, 3) := by decide +kernel
theorem dX6_formula_152 : decode cX6_formula 152 = .ok (.iconst 1, 1) := by decide +kernel
theorem dX6_formula_153 : decode cX6_formula 153 = .ok (.aload_n 0, 1) := by decide +kernel
theorem dX6_formula_154 : decode cX6_formula 154 = .ok (.getfield 19, 3) := by decide +kernel
theorem dX6_formula_157 : decode cX6_formula 157 = .ok (.iload 4, 2) := by decide +kernel
theorem dX6_formula_159 : decode cX6_formula 159 = .ok (.iaload, 1) := by decide +kernel
theorem dX6_formula_160 : decode cX6_formula 160 = .ok (.ishl, 1) := by decide +kernel
theorem dX6_formula_161 : decode cX6_formula 161 = .ok (.goto 4, 3) := by decide +kernel
theorem dX6_formula_164 : decode cX6_formula 164 = .ok (.iconst 0, 1) := by decide +kernel
theorem dX6_formula_165 : decode cX6_formula 165 = .ok (.ior, 1) := by decide +kernel
theorem dX6_formula_166 : decode cX6_formula 166 = .ok (.iastore, 1) := by decide +kernel
theorem dX6_formula_167 : decode cX6_formula 167 = .ok (.iinc 4 1, 3) := by decide +kernel
theorem dX6_formula_170 : decode cX6_formula 170 = .ok (.goto (-114), 3) := by decide +kernel
theorem dX6_formula_173 : decode cX6_formula 173 = .ok (.iinc 3 1, 3) := by decide +kernel
theorem dX6_formula_176 : decode cX6_formula 176 = .ok (.goto (-150), 3) := by decide +kernel
theorem dX6_formula_179 : decode cX6_formula 179 = .ok (.iload_n 2, 1) := by decide +kernel
theorem dX6_formula_180 : decode cX6_formula 180 = .ok (.ifCond .ne 12, 3) := by decide +kernel
theorem dX6_formula_183 : decode cX6_formula 183 = .ok (.aload_n 0, 1) := by decide +kernel
theorem dX6_formula_184 : decode cX6_formula 184 = .ok (.getfield 13, 3) := by decide +kernel
theorem dX6_formula_187 : decode cX6_formula 187 = .ok (.iload_n 1, 1) := by decide +kernel
theorem dX6_formula_188 : decode cX6_formula 188 = .ok (.iaload, 1) := by decide +kernel
theorem dX6_formula_189 : decode cX6_formula 189 = .ok (.goto 23, 3) := by decide +kernel
theorem dX6_formula_192 : decode cX6_formula 192 = .ok (.iload_n 2, 1) := by decide +kernel
theorem dX6_formula_193 : decode cX6_formula 193 = .ok (.iconst 1, 1) := by decide +kernel
theorem dX6_formula_194 : decode cX6_formula 194 = .ok (.if_icmp .ne 12, 3) := by decide +kernel
theorem dX6_formula_197 : decode cX6_formula 197 = .ok (.aload_n 0, 1) := by decide +kernel
theorem dX6_formula_198 : decode cX6_formula 198 = .ok (.getfield 81, 3) := by decide +kernel
theorem dX6_formula_201 : decode cX6_formula 201 = .ok (.iload_n 1, 1) := by decide +kernel
theorem dX6_formula_202 : decode cX6_formula 202 = .ok (.iaload, 1) := by decide +kernel
theorem dX6_formula_203 : decode cX6_formula 203 = .ok (.goto 9, 3) := by decide +kernel
theorem dX6_formula_206 : decode cX6_formula 206 = .ok (.aload_n 0, 1) := by decide +kernel
theorem dX6_formula_207 : decode cX6_formula 207 = .ok (.getfield 84, 3) := by decide +kernel
theorem dX6_formula_210 : decode cX6_formula 210 = .ok (.iload_n 1, 1) := by decide +kernel
theorem dX6_formula_211 : decode cX6_formula 211 = .ok (.iaload, 1) := by decide +kernel
theorem dX6_formula_212 : decode cX6_formula 212 = .ok (.ireturn, 1) := by decide +kernel
theorem dX6_count_0 : decode cX6_count 0 = .ok (.aload_n 0, 1) := by decide +kernel
theorem dX6_count_1 : decode cX6_count 1 = .ok (.iconst 0, 1) := by decide +kernel
theorem dX6_count_2 : decode cX6_count 2 = .ok (.putfield 93, 3) := by decide +kernel
theorem dX6_count_5 : decode cX6_count 5 = .ok (.iload_n 1, 1) := by decide +kernel
theorem dX6_count_6 : decode cX6_count 6 = .ok (.ifCond .ne 10, 3) := by decide +kernel
theorem dX6_count_9 : decode cX6_count 9 = .ok (.aload_n 0, 1) := by decide +kernel
theorem dX6_count_10 : decode cX6_count 10 = .ok (.getfield 199, 3) := by decide +kernel
theorem dX6_count_13 : decode cX6_count 13 = .ok (.goto 40, 3) := by decide +kernel
theorem dX6_count_16 : decode cX6_count 16 = .ok (.iload_n 1, 1) := by decide +kernel
theorem dX6_count_17 : decode cX6_count 17 = .ok (.iconst 1, 1) := by decide +kernel
theorem dX6_count_18 : decode cX6_count 18 = .ok (.if_icmp .ne 10, 3) := by decide +kernel
theorem dX6_count_21 : decode cX6_count 21 = .ok (.aload_n 0, 1) := by decide +kernel
theorem dX6_count_22 : decode cX6_count 22 = .ok (.getfield 202, 3) := by decide +kernel
theorem dX6_count_25 : decode cX6_count 25 = .ok (.goto 28, 3) := by decide +kernel
theorem dX6_count_28 : decode cX6_count 28 = .ok (.iload_n 1, 1) := by decide +kernel
theorem dX6_count_29 : decode cX6_count 29 = .ok (.iconst 2, 1) := by decide +kernel
theorem dX6_count_30 : decode cX6_count 30 = .ok (.if_icmp .ne 10, 3) := by decide +kernel
theorem dX6_count_33 : decode cX6_count 33 = .ok (.aload_n 0, 1) := by decide +kernel
theorem dX6_count_34 : decode cX6_count 34 = .ok (.getfield 101, 3) := by decide +kernel
theorem dX6_count_37 : decode cX6_count 37 = .ok (.goto 16, 3) := by decide +kernel
theorem dX6_count_40 : decode cX6_count 40 = .ok (.iload_n 1, 1) := by decide +kernel
theorem dX6_count_41 : decode cX6_count 41 = .ok (.iconst 3, 1) := by decide +kernel
theorem dX6_count_42 : decode cX6_count 42 = .ok (.if_icmp .ne 10, 3) := by decide +kernel
theorem dX6_count_45 : decode cX6_count 45 = .ok (.aload_n 0, 1) := by decide +kernel
theorem dX6_count_46 : decode cX6_count 46 = .ok (.getfield 205, 3) := by decide +kernel
theorem dX6_count_49 : decode cX6_count 49 = .ok (.goto 4, 3) := by decide +kernel
theorem dX6_count_52 : decode cX6_count 52 = .ok (.iconst (-1), 1) := by decide +kernel
theorem dX6_count_53 : decode cX6_count 53 = .ok (.ireturn, 1) := by decide +kernel
