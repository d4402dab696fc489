theorem dX7_init_0 : decode cX7_init 0 = .ok (.aload_n 0, 1) := by decide +kernel
theorem dX7_init_1 : decode cX7_init 1 = .ok (.invokespecial 1, 3) := by decide +kernel
theorem dX7_init_4 : decode cX7_init 4 = .ok (.aload_n 0, 1) := by decide +kernel
theorem dX7_init_5 : decode cX7_init 5 = .ok (.bipush 100, 2) := by decide +kernel
theorem dX7_init_7 : decode cX7_init 7 = .ok (.newarray .int, 2) := by decide +kernel
theorem dX7_init_9 : decode cX7_init 9 = .ok (.putfield 7, 3) := by decide +kernel
theorem dX7_init_12 : decode cX7_init 12 = .ok (.aload_n 0, 1) := by decide +kernel
theorem dX7_init_13 : decode cX7_init 13 = .ok (.sipush 500, 3) := by decide +kernel
theorem dX7_init_16 : decode cX7_init 16 = .ok (.newarray .int, 2) := by decide +kernel
theorem dX7_init_18 : decode cX7_init 18 = .ok (.putfield 13, 3) := by decide +kernel
theorem dX7_init_21 : decode cX7_init 21 = .ok (.aload_n 0, 1) := by decide +kernel
theorem dX7_init_22 : decode cX7_init 22 = .ok (.bipush 40, 2) := by decide +kernel
theorem dX7_init_24 : decode cX7_init 24 = .ok (.newarray .int, 2) := by decide +kernel
theorem dX7_init_26 : decode cX7_init 26 = .ok (.putfield 16, 3) := by decide +kernel
theorem dX7_init_29 : decode cX7_init 29 = .ok (.aload_n 0, 1) := by decide +kernel
theorem dX7_init_30 : decode cX7_init 30 = .ok (.bipush 40, 2) := by decide +kernel
theorem dX7_init_32 : decode cX7_init 32 = .ok (.newarray .int, 2) := by decide +kernel
theorem dX7_init_34 : decode cX7_init 34 = .ok (.putfield 19, 3) := by decide +kernel
theorem dX7_init_37 : decode cX7_init 37 = .ok (.aload_n 0, 1) := by decide +kernel
theorem dX7_init_38 : decode cX7_init 38 = .ok (.bipush 40, 2) := by decide +kernel
theorem dX7_init_40 : decode cX7_init 40 = .ok (.newarray .int, 2) := by decide +kernel
theorem dX7_init_42 : decode cX7_init 42 = .ok (.putfield 22, 3) := by decide +kernel
theorem dX7_init_45 : decode cX7_init 45 = .ok (.aload_n 0, 1) := by decide +kernel
theorem dX7_init_46 : decode cX7_init 46 = .ok (.bipush 40, 2) := by decide +kernel
theorem dX7_init_48 : decode cX7_init 48 = .ok (.newarray .int, 2) := by decide +kernel
theorem dX7_init_50 : decode cX7_init 50 = .ok (.putfield 25, 3) := by decide +kernel
theorem dX7_init_53 : decode cX7_init 53 = .ok (.aload_n 0, 1) := by decide +kernel
theorem dX7_init_54 : decode cX7_init 54 = .ok (.bipush 40, 2) := by decide +kernel
theorem dX7_init_56 : decode cX7_init 56 = .ok (.newarray .boolean, 2) := by decide +kernel
theorem dX7_init_58 : decode cX7_init 58 = .ok (.putfield 28, 3) := by decide +kernel
theorem dX7_init_61 : decode cX7_init 61 = .ok (.aload_n 0, 1) := by decide +kernel
theorem dX7_init_62 : decode cX7_init 62 = .ok (.bipush 8, 2) := by decide +kernel
theorem dX7_init_64 : decode cX7_init 64 = .ok (.newarray .int, 2) := by decide +kernel
theorem dX7_init_66 : decode cX7_init 66 = .ok (.putfield 32, 3) := by decide +kernel
theorem dX7_init_69 : decode cX7_init 69 = .ok (.aload_n 0, 1) := by decide +kernel
theorem dX7_init_70 : decode cX7_init 70 = .ok (.bipush 8, 2) := by decide +kernel
theorem dX7_init_72 : decode cX7_init 72 = .ok (.newarray .int, 2) := by decide +kernel
theorem dX7_init_74 : decode cX7_init 74 = .ok (.putfield 35, 3) := by decide +kernel
theorem dX7_init_77 : decode cX7_init 77 = .ok (.aload_n 0, 1) := by decide +kernel
theorem dX7_init_78 : decode cX7_init 78 = .ok (.bipush 8, 2) := by decide +kernel
theorem dX7_init_80 : decode cX7_init 80 = .ok (.newarray .boolean, 2) := by decide +kernel
theorem dX7_init_82 : decode cX7_init 82 = .ok (.putfield 38, 3) := by decide +kernel
theorem dX7_init_85 : decode cX7_init 85 = .ok (.aload_n 0, 1) := by decide +kernel
theorem dX7_init_86 : decode cX7_init 86 = .ok (.bipush 8, 2) := by decide +kernel
theorem dX7_init_88 : decode cX7_init 88 = .ok (.newarray .int, 2) := by decide +kernel
theorem dX7_init_90 : decode cX7_init 90 = .ok (.putfield 41, 3) := by decide +kernel
theorem dX7_init_93 : decode cX7_init 93 = .ok (.aload_n 0, 1) := by decide +kernel
theorem dX7_init_94 : decode cX7_init 94 = .ok (.bipush 8, 2) := by decide +kernel
theorem dX7_init_96 : decode cX7_init 96 = .ok (.newarray .int, 2) := by decide +kernel
theorem dX7_init_98 : decode cX7_init 98 = .ok (.putfield 44, 3) := by decide +kernel
theorem dX7_init_101 : decode cX7_init 101 = .ok (.aload_n 0, 1) := by decide +kernel
theorem dX7_init_102 : decode cX7_init 102 = .ok (.bipush 40, 2) := by decide +kernel
theorem dX7_init_104 : decode cX7_init 104 = .ok (.newarray .int, 2) := by decide +kernel
theorem dX7_init_106 : decode cX7_init 106 = .ok (.putfield 47, 3) := by decide +kernel
theorem dX7_init_109 : decode cX7_init 109 = .ok (.aload_n 0, 1) := by decide +kernel
theorem dX7_init_110 : decode cX7_init 110 = .ok (.sipush 4000, 3) := by decide +kernel
theorem dX7_init_113 : decode cX7_init 113 = .ok (.newarray .int, 2) := by decide +kernel
theorem dX7_init_115 : decode cX7_init 115 = .ok (.putfield 50, 3) := by decide +kernel
theorem dX7_init_118 : decode cX7_init 118 = .ok (.aload_n 0, 1) := by decide +kernel
theorem dX7_init_119 : decode cX7_init 119 = .ok (.bipush 8, 2) := by decide +kernel
theorem dX7_init_121 : decode cX7_init 121 = .ok (.newarray .int, 2) := by decide +kernel
theorem dX7_init_123 : decode cX7_init 123 = .ok (.putfield 53, 3) := by decide +kernel
theorem dX7_init_126 : decode cX7_init 126 = .ok (.aload_n 0, 1) := by decide +kernel
theorem dX7_init_127 : decode cX7_init 127 = .ok (.sipush 800, 3) := by decide +kernel
theorem dX7_init_130 : decode cX7_init 130 = .ok (.newarray .int, 2) := by decide +kernel
theorem dX7_init_132 : decode cX7_init 132 = .ok (.putfield 56, 3) := by decide +kernel
theorem dX7_init_135 : decode cX7_init 135 = .ok (.aload_n 0, 1) := by decide +kernel
theorem dX7_init_136 : decode cX7_init 136 = .ok (.bipush 8, 2) := by decide +kernel
theorem dX7_init_138 : decode cX7_init 138 = .ok (.newarray .int, 2) := by decide +kernel
theorem dX7_init_140 : decode cX7_init 140 = .ok (.putfield 59, 3) := by decide +kernel
theorem dX7_init_143 : decode cX7_init 143 = .ok (.aload_n 0, 1) := by decide +kernel
theorem dX7_init_144 : decode cX7_init 144 = .ok (.sipush 800, 3) := by decide +kernel
theorem dX7_init_147 : decode cX7_init 147 = .ok (.newarray .int, 2) := by decide +kernel
theorem dX7_init_149 : decode cX7_init 149 = .ok (.putfield 62, 3) := by decide +kernel
theorem dX7_init_152 : decode cX7_init 152 = .ok (.aload_n 0, 1) := by decide +kernel
theorem dX7_init_153 : decode cX7_init 153 = .ok (.sipush 800, 3) := by decide +kernel
theorem dX7_init_156 : decode cX7_init 156 = .ok (.newarray .int, 2) := by decide +kernel
theorem dX7_init_158 : decode cX7_init 158 = .ok (.putfield 65, 3) := by decide +kernel
theorem dX7_init_161 : decode cX7_init 161 = .ok (.aload_n 0, 1) := by decide +kernel
theorem dX7_init_162 : decode cX7_init 162 = .ok (.sipush 800, 3) := by decide +kernel
theorem dX7_init_165 : decode cX7_init 165 = .ok (.newarray .int, 2) := by decide +kernel
theorem dX7_init_167 : decode cX7_init 167 = .ok (.putfield 68, 3) := by decide +kernel
theorem dX7_init_170 : decode cX7_init 170 = .ok (.aload_n 0, 1) := by decide +kernel
theorem dX7_init_171 : decode cX7_init 171 = .ok (.bipush 8, 2) := by decide +kernel
theorem dX7_init_173 : decode cX7_init 173 = .ok (.newarray .int, 2) := by decide +kernel
theorem dX7_init_175 : decode cX7_init 175 = .ok (.putfield 71, 3) := by decide +kernel
theorem dX7_init_178 : decode cX7_init 178 = .ok (.aload_n 0, 1) := by decide +kernel
theorem dX7_init_179 : decode cX7_init 179 = .ok (.sipush 160, 3) := by decide +kernel
theorem dX7_init_182 : decode cX7_init 182 = .ok (.newarray .int, 2) := by decide +kernel
theorem dX7_init_184 : decode cX7_init 184 = .ok (.putfield 74, 3) := by decide +kernel
theorem dX7_init_187 : decode cX7_init 187 = .ok (.aload_n 0, 1) := by decide +kernel
theorem dX7_init_188 : decode cX7_init 188 = .ok (.sipush 160, 3) := by decide +kernel
theorem dX7_init_191 : decode cX7_init 191 = .ok (.newarray .int, 2) := by decide +kernel
theorem dX7_init_193 : decode cX7_init 193 = .ok (.putfield 77, 3) := by decide +kernel
theorem dX7_init_196 : decode cX7_init 196 = .ok (.aload_n 0, 1) := by decide +kernel
theorem dX7_init_197 : decode cX7_init 197 = .ok (.sipush 1000, 3) := by decide +kernel
theorem dX7_init_200 : decode cX7_init 200 = .ok (.newarray .int, 2) := by decide +kernel
theorem dX7_init_202 : decode cX7_init 202 = .ok (.putfield 80, 3) := by decide +kernel
theorem dX7_init_205 : decode cX7_init 205 = .ok (.iconst 0, 1) := by decide +kernel
theorem dX7_init_206 : decode cX7_init 206 = .ok (.istore_n 1, 1) := by decide +kernel
theorem dX7_init_207 : decode cX7_init 207 = .ok (.iload_n 1, 1) := by decide +kernel
theorem dX7_init_208 : decode cX7_init 208 = .ok (.bipush 40, 2) := by decide +kernel
theorem dX7_init_210 : decode cX7_init 210 = .ok (.if_icmp .ge 16, 3) := by decide +kernel
theorem dX7_init_213 : decode cX7_init 213 = .ok (.aload_n 0, 1) := by decide +kernel
theorem dX7_init_214 : decode cX7_init 214 = .ok (.getfield 47, 3) := by decide +kernel
theorem dX7_init_217 : decode cX7_init 217 = .ok (.iload_n 1, 1) := by decide +kernel
theorem dX7_init_218 : decode cX7_init 218 = .ok (.iconst (-1), 1) := by decide +kernel
theorem dX7_init_219 : decode cX7_init 219 = .ok (.iastore, 1) := by decide +kernel
theorem dX7_init_220 : decode cX7_init 220 = .ok (.iinc 1 1, 3) := by decide +kernel
theorem dX7_init_223 : decode cX7_init 223 = .ok (.goto (-16), 3) := by decide +kernel
theorem dX7_init_226 : decode cX7_init 226 = .ok (.return_, 1) := by decide +kernel
theorem dX7_thrown_0 : decode cX7_thrown 0 = .ok (.aload_n 0, 1) := by decide +kernel
theorem dX7_thrown_1 : decode cX7_thrown 1 = .ok (.getfield 83, 3) := by decide +kernel
theorem dX7_thrown_4 : decode cX7_thrown 4 = .ok (.ireturn, 1) := by decide +kernel
theorem dX7_in_0 : decode cX7_in 0 = .ok (.iload_n 0, 1) := by decide +kernel
theorem dX7_in_1 : decode cX7_in 1 = .ok (.iload_n 1, 1) := by decide +kernel
theorem dX7_in_2 : decode cX7_in 2 = .ok (.if_icmp .lt 12, 3) := by decide +kernel
theorem dX7_in_5 : decode cX7_in 5 = .ok (.iload_n 0, 1) := by decide +kernel
theorem dX7_in_6 : decode cX7_in 6 = .ok (.iload_n 2, 1) := by decide +kernel
theorem dX7_in_7 : decode cX7_in 7 = .ok (.if_icmp .gt 7, 3) := by decide +kernel
theorem dX7_in_10 : decode cX7_in 10 = .ok (.iconst 1, 1) := by decide +kernel
theorem dX7_in_11 : decode cX7_in 11 = .ok (.goto 4, 3) := by decide +kernel
theorem dX7_in_14 : decode cX7_in 14 = .ok (.iconst 0, 1) := by decide +kernel
theorem dX7_in_15 : decode cX7_in 15 = .ok (.ireturn, 1) := by decide +kernel
theorem dX7_isIndex_0 : decode cX7_isIndex 0 = .ok (.iload_n 0, 1) := by decide +kernel
theorem dX7_isIndex_1 : decode cX7_isIndex 1 = .ok (.iconst 0, 1) := by decide +kernel
theorem dX7_isIndex_2 : decode cX7_isIndex 2 = .ok (.iconst 4, 1) := by decide +kernel
theorem dX7_isIndex_3 : decode cX7_isIndex 3 = .ok (.invokestatic 87, 3) := by decide +kernel
theorem dX7_isIndex_6 : decode cX7_isIndex 6 = .ok (.ireturn, 1) := by decide +kernel
theorem dX7_isValue_0 : decode cX7_isValue 0 = .ok (.iload_n 0, 1) := by decide +kernel
theorem dX7_isValue_1 : decode cX7_isValue 1 = .ok (.iconst 0, 1) := by decide +kernel
theorem dX7_isValue_2 : decode cX7_isValue 2 = .ok (.sipush 999, 3) := by decide +kernel
theorem dX7_isValue_5 : decode cX7_isValue 5 = .ok (.invokestatic 87, 3) := by decide +kernel
theorem dX7_isValue_8 : decode cX7_isValue 8 = .ok (.ireturn, 1) := by decide +kernel
theorem dX7_record_0 : decode cX7_record 0 = .ok (.aload_n 0, 1) := by decide +kernel
theorem dX7_record_1 : decode cX7_record 1 = .ok (.iconst 0, 1) := by decide +kernel
theorem dX7_record_2 : decode cX7_record 2 = .ok (.putfield 83, 3) := by decide +kernel
theorem dX7_record_5 : decode cX7_record 5 = .ok (.iload_n 1, 1) := by decide +kernel
theorem dX7_record_6 : decode cX7_record 6 = .ok (.iconst 1, 1) := by decide +kernel
theorem dX7_record_7 : decode cX7_record 7 = .ok (.sipush 200, 3) := by decide +kernel
theorem dX7_record_10 : decode cX7_record 10 = .ok (.invokestatic 87, 3) := by decide +kernel
theorem dX7_record_13 : decode cX7_record 13 = .ok (.ifCond .eq 12, 3) := by decide +kernel
theorem dX7_record_16 : decode cX7_record 16 = .ok (.aload_n 0, 1) := by decide +kernel
theorem dX7_record_17 : decode cX7_record 17 = .ok (.getfield 91, 3) := by decide +kernel
theorem dX7_record_20 : decode cX7_record 20 = .ok (.bipush 100, 2) := by decide +kernel
theorem dX7_record_22 : decode cX7_record 22 = .ok (.if_icmp .ne 5, 3) := by decide +kernel
theorem dX7_record_25 : decode cX7_record 25 = .ok (.iconst (-1), 1) := by decide +kernel
theorem dX7_record_26 : decode cX7_record 26 = .ok (.ireturn, 1) := by decide +kernel
theorem dX7_record_27 : decode cX7_record 27 = .ok (.aload_n 0, 1) := by decide +kernel
theorem dX7_record_28 : decode cX7_record 28 = .ok (.getfield 7, 3) := by decide +kernel
theorem dX7_record_31 : decode cX7_record 31 = .ok (.aload_n 0, 1) := by decide +kernel
theorem dX7_record_32 : decode cX7_record 32 = .ok (.getfield 91, 3) := by decide +kernel
theorem dX7_record_35 : decode cX7_record 35 = .ok (.iload_n 1, 1) := by decide +kernel
theorem dX7_record_36 : decode cX7_record 36 = .ok (.iastore, 1) := by decide +kernel
theorem dX7_record_37 : decode cX7_record 37 = .ok (.iconst 0, 1) := by decide +kernel
theorem dX7_record_38 : decode cX7_record 38 = .ok (.istore_n 2, 1) := by decide +kernel
theorem dX7_record_39 : decode cX7_record 39 = .ok (.iload_n 2, 1) := by decide +kernel
theorem dX7_record_40 : decode cX7_record 40 = .ok (.iconst 5, 1) := by decide +kernel
theorem dX7_record_41 : decode cX7_record 41 = .ok (.if_icmp .ge 23, 3) := by decide +kernel
theorem dX7_record_44 : decode cX7_record 44 = .ok (.aload_n 0, 1) := by decide +kernel
theorem dX7_record_45 : decode cX7_record 45 = .ok (.getfield 13, 3) := by decide +kernel
theorem dX7_record_48 : decode cX7_record 48 = .ok (.iconst 5, 1) := by decide +kernel
theorem dX7_record_49 : decode cX7_record 49 = .ok (.aload_n 0, 1) := by decide +kernel
theorem dX7_record_50 : decode cX7_record 50 = .ok (.getfield 91, 3) := by decide +kernel
theorem dX7_record_53 : decode cX7_record 53 = .ok (.imul, 1) := by decide +kernel
theorem dX7_record_54 : decode cX7_record 54 = .ok (.iload_n 2, 1) := by decide +kernel
theorem dX7_record_55 : decode cX7_record 55 = .ok (.iadd, 1) := by decide +kernel
theorem dX7_record_56 : decode cX7_record 56 = .ok (.iconst (-1), 1) := by decide +kernel
theorem dX7_record_57 : decode cX7_record 57 = .ok (.iastore, 1) := by decide +kernel
theorem dX7_record_58 : decode cX7_record 58 = .ok (.iinc 2 1, 3) := by decide +kernel
theorem dX7_record_61 : decode cX7_record 61 = .ok (.goto (-22), 3) := by decide +kernel
theorem dX7_record_64 : decode cX7_record 64 = .ok (.aload_n 0, 1) := by decide +kernel
theorem dX7_record_65 : decode cX7_record 65 = .ok (.dup, 1) := by decide +kernel
theorem dX7_record_66 : decode cX7_record 66 = .ok (.getfield 91, 3) := by decide +kernel
theorem dX7_record_69 : decode cX7_record 69 = .ok (.iconst 1, 1) := by decide +kernel
theorem dX7_record_70 : decode cX7_record 70 = .ok (.iadd, 1) := by decide +kernel
theorem dX7_record_71 : decode cX7_record 71 = .ok (.putfield 91, 3) := by decide +kernel
theorem dX7_record_74 : decode cX7_record 74 = .ok (.aload_n 0, 1) := by decide +kernel
theorem dX7_record_75 : decode cX7_record 75 = .ok (.getfield 91, 3) := by decide +kernel
theorem dX7_record_78 : decode cX7_record 78 = .ok (.iconst 1, 1) := by decide +kernel
theorem dX7_record_79 : decode cX7_record 79 = .ok (.isub, 1) := by decide +kernel
theorem dX7_record_80 : decode cX7_record 80 = .ok (.ireturn, 1) := by decide +kernel
theorem dX7_term_0 : decode cX7_term 0 = .ok (.aload_n 0, 1) := by decide +kernel
theorem dX7_term_1 : decode cX7_term 1 = .ok (.iconst 0, 1) := by decide +kernel
theorem dX7_term_2 : decode cX7_term 2 = .ok (.putfield 83, 3) := by decide +kernel
theorem dX7_term_5 : decode cX7_term 5 = .ok (.iload_n 1, 1) := by decide +kernel
theorem dX7_term_6 : decode cX7_term 6 = .ok (.iconst 0, 1) := by decide +kernel
theorem dX7_term_7 : decode cX7_term 7 = .ok (.aload_n 0, 1) := by decide +kernel
theorem dX7_term_8 : decode cX7_term 8 = .ok (.getfield 91, 3) := by decide +kernel
theorem dX7_term_11 : decode cX7_term 11 = .ok (.iconst 1, 1) := by decide +kernel
theorem dX7_term_12 : decode cX7_term 12 = .ok (.isub, 1) := by decide +kernel
theorem dX7_term_13 : decode cX7_term 13 = .ok (.invokestatic 87, 3) := by decide +kernel
theorem dX7_term_16 : decode cX7_term 16 = .ok (.ifCond .eq 21, 3) := by decide +kernel
theorem dX7_term_19 : decode cX7_term 19 = .ok (.iload_n 2, 1) := by decide +kernel
theorem dX7_term_20 : decode cX7_term 20 = .ok (.invokestatic 94, 3) := by decide +kernel
theorem dX7_term_23 : decode cX7_term 23 = .ok (.ifCond .eq 14, 3) := by decide +kernel
theorem dX7_term_26 : decode cX7_term 26 = .ok (.iload_n 3, 1) := by decide +kernel
theorem dX7_term_27 : decode cX7_term 27 = .ok (.iconst (-1), 1) := by decide +kernel
theorem dX7_term_28 : decode cX7_term 28 = .ok (.sipush 999, 3) := by decide +kernel
theorem dX7_term_31 : decode cX7_term 31 = .ok (.invokestatic 87, 3) := by decide +kernel
theorem dX7_term_34 : decode cX7_term 34 = .ok (.ifCond .ne 5, 3) := by decide +kernel
theorem dX7_term_37 : decode cX7_term 37 = .ok (.iconst (-1), 1) := by decide +kernel
theorem dX7_term_38 : decode cX7_term 38 = .ok (.ireturn, 1) := by decide +kernel
theorem dX7_term_39 : decode cX7_term 39 = .ok (.aload_n 0, 1) := by decide +kernel
theorem dX7_term_40 : decode cX7_term 40 = .ok (.getfield 13, 3) := by decide +kernel
theorem dX7_term_43 : decode cX7_term 43 = .ok (.iconst 5, 1) := by decide +kernel
theorem dX7_term_44 : decode cX7_term 44 = .ok (.iload_n 1, 1) := by decide +kernel
theorem dX7_term_45 : decode cX7_term 45 = .ok (.imul, 1) := by decide +kernel
theorem dX7_term_46 : decode cX7_term 46 = .ok (.iload_n 2, 1) := by decide +kernel
theorem dX7_term_47 : decode cX7_term 47 = .ok (.iadd, 1) := by decide +kernel
theorem dX7_term_48 : decode cX7_term 48 = .ok (.iload_n 3, 1) := by decide +kernel
theorem dX7_term_49 : decode cX7_term 49 = .ok (.iastore, 1) := by decide +kernel
theorem dX7_term_50 : decode cX7_term 50 = .ok (.iconst 1, 1) := by decide +kernel
theorem dX7_term_51 : decode cX7_term 51 = .ok (.ireturn, 1) := by decide +kernel
theorem dX7_isQuestion_0 : decode cX7_isQuestion 0 = .ok (.iload_n 1, 1) := by decide +kernel
theorem dX7_isQuestion_1 : decode cX7_isQuestion 1 = .ok (.iconst 0, 1) := by decide +kernel
theorem dX7_isQuestion_2 : decode cX7_isQuestion 2 = .ok (.aload_n 0, 1) := by decide +kernel
theorem dX7_isQuestion_3 : decode cX7_isQuestion 3 = .ok (.getfield 98, 3) := by decide +kernel
theorem dX7_isQuestion_6 : decode cX7_isQuestion 6 = .ok (.iconst 1, 1) := by decide +kernel
theorem dX7_isQuestion_7 : decode cX7_isQuestion 7 = .ok (.isub, 1) := by decide +kernel
theorem dX7_isQuestion_8 : decode cX7_isQuestion 8 = .ok (.invokestatic 87, 3) := by decide +kernel
theorem dX7_isQuestion_11 : decode cX7_isQuestion 11 = .ok (.ireturn, 1) := by decide +kernel
theorem dX7_question_0 : decode cX7_question 0 = .ok (.aload_n 0, 1) := by decide +kernel
theorem dX7_question_1 : decode cX7_question 1 = .ok (.iconst 0, 1) := by decide +kernel
theorem dX7_question_2 : decode cX7_question 2 = .ok (.putfield 83, 3) := by decide +kernel
theorem dX7_question_5 : decode cX7_question 5 = .ok (.iload_n 1, 1) := by decide +kernel
theorem dX7_question_6 : decode cX7_question 6 = .ok (.ifCond .ne 25, 3) := by decide +kernel
theorem dX7_question_9 : decode cX7_question 9 = .ok (.iload_n 2, 1) := by decide +kernel
theorem dX7_question_10 : decode cX7_question 10 = .ok (.invokestatic 94, 3) := by decide +kernel
theorem dX7_question_13 : decode cX7_question 13 = .ok (.ifCond .eq 14, 3) := by decide +kernel
theorem dX7_question_16 : decode cX7_question 16 = .ok (.iload_n 3, 1) := by decide +kernel
theorem dX7_question_17 : decode cX7_question 17 = .ok (.invokestatic 101, 3) := by decide +kernel
theorem dX7_question_20 : decode cX7_question 20 = .ok (.ifCond .eq 7, 3) := by decide +kernel
theorem dX7_question_23 : decode cX7_question 23 = .ok (.iconst 1, 1) := by decide +kernel
theorem dX7_question_24 : decode cX7_question 24 = .ok (.goto 45, 3) := by decide +kernel
theorem dX7_question_27 : decode cX7_question 27 = .ok (.iconst 0, 1) := by decide +kernel
theorem dX7_question_28 : decode cX7_question 28 = .ok (.goto 41, 3) := by decide +kernel
theorem dX7_question_31 : decode cX7_question 31 = .ok (.iload_n 1, 1) := by decide +kernel
theorem dX7_question_32 : decode cX7_question 32 = .ok (.iconst 1, 1) := by decide +kernel
theorem dX7_question_33 : decode cX7_question 33 = .ok (.if_icmp .ne 35, 3) := by decide +kernel
theorem dX7_question_36 : decode cX7_question 36 = .ok (.iload_n 2, 1) := by decide +kernel
theorem dX7_question_37 : decode cX7_question 37 = .ok (.invokestatic 94, 3) := by decide +kernel
theorem dX7_question_40 : decode cX7_question 40 = .ok (.ifCond .eq 28, 3) := by decide +kernel
theorem dX7_question_43 : decode cX7_question 43 = .ok (.iload_n 3, 1) := by decide +kernel
theorem dX7_question_44 : decode cX7_question 44 = .ok (.invokestatic 101, 3) := by decide +kernel
theorem dX7_question_47 : decode cX7_question 47 = .ok (.ifCond .eq 21, 3) := by decide +kernel
theorem dX7_question_50 : decode cX7_question 50 = .ok (.iload 4, 2) := by decide +kernel
theorem dX7_question_52 : decode cX7_question 52 = .ok (.invokestatic 101, 3) := by decide +kernel
theorem dX7_question_55 : decode cX7_question 55 = .ok (.ifCond .eq 13, 3) := by decide +kernel
theorem dX7_question_58 : decode cX7_question 58 = .ok (.iload_n 3, 1) := by decide +kernel
theorem dX7_question_59 : decode cX7_question 59 = .ok (.iload 4, 2) := by decide +kernel
theorem dX7_question_61 : decode cX7_question 61 = .ok (.if_icmp .gt 7, 3) := by decide +kernel
theorem dX7_question_64 : decode cX7_question 64 = .ok (.iconst 1, 1) := by decide +kernel
theorem dX7_question_65 : decode cX7_question 65 = .ok (.goto 4, 3) := by decide +kernel
theorem dX7_question_68 : decode cX7_question 68 = .ok (.iconst 0, 1) := by decide +kernel
theorem dX7_question_69 : decode cX7_question 69 = .ok (.istore 5, 2) := by decide +kernel
theorem dX7_question_71 : decode cX7_question 71 = .ok (.iload_n 1, 1) := by decide +kernel
theorem dX7_question_72 : decode cX7_question 72 = .ok (.iconst 2, 1) := by decide +kernel
theorem dX7_question_73 : decode cX7_question 73 = .ok (.iconst 4, 1) := by decide +kernel
theorem dX7_question_74 : decode cX7_question 74 = .ok (.invokestatic 87, 3) := by decide +kernel
theorem dX7_question_77 : decode cX7_question 77 = .ok (.ifCond .eq 23, 3) := by decide +kernel
theorem dX7_question_80 : decode cX7_question 80 = .ok (.aload_n 0, 1) := by decide +kernel
theorem dX7_question_81 : decode cX7_question 81 = .ok (.iload_n 2, 1) := by decide +kernel
theorem dX7_question_82 : decode cX7_question 82 = .ok (.invokevirtual 104, 3) := by decide +kernel
theorem dX7_question_85 : decode cX7_question 85 = .ok (.ifCond .eq 15, 3) := by decide +kernel
theorem dX7_question_88 : decode cX7_question 88 = .ok (.aload_n 0, 1) := by decide +kernel
theorem dX7_question_89 : decode cX7_question 89 = .ok (.iload_n 3, 1) := by decide +kernel
theorem dX7_question_90 : decode cX7_question 90 = .ok (.invokevirtual 104, 3) := by decide +kernel
theorem dX7_question_93 : decode cX7_question 93 = .ok (.ifCond .eq 7, 3) := by decide +kernel
theorem dX7_question_96 : decode cX7_question 96 = .ok (.iconst 1, 1) := by decide +kernel
theorem dX7_question_97 : decode cX7_question 97 = .ok (.goto 4, 3) := by decide +kernel
theorem dX7_question_100 : decode cX7_question 100 = .ok (.iconst 0, 1) := by decide +kernel
theorem dX7_question_101 : decode cX7_question 101 = .ok (.istore 6, 2) := by decide +kernel
theorem dX7_question_103 : decode cX7_question 103 = .ok (.iload 5, 2) := by decide +kernel
theorem dX7_question_105 : decode cX7_question 105 = .ok (.ifCond .ne 8, 3) := by decide +kernel
theorem dX7_question_108 : decode cX7_question 108 = .ok (.iload 6, 2) := by decide +kernel
theorem dX7_question_110 : decode cX7_question 110 = .ok (.ifCond .eq 12, 3) := by decide +kernel
theorem dX7_question_113 : decode cX7_question 113 = .ok (.aload_n 0, 1) := by decide +kernel
theorem dX7_question_114 : decode cX7_question 114 = .ok (.getfield 98, 3) := by decide +kernel
theorem dX7_question_117 : decode cX7_question 117 = .ok (.bipush 40, 2) := by decide +kernel
theorem dX7_question_119 : decode cX7_question 119 = .ok (.if_icmp .ne 5, 3) := by decide +kernel
theorem dX7_question_122 : decode cX7_question 122 = .ok (.iconst (-1), 1) := by decide +kernel
theorem dX7_question_123 : decode cX7_question 123 = .ok (.ireturn, 1) := by decide +kernel
theorem dX7_question_124 : decode cX7_question 124 = .ok (.aload_n 0, 1) := by decide +kernel
theorem dX7_question_125 : decode cX7_question 125 = .ok (.getfield 16, 3) := by decide +kernel
theorem dX7_question_128 : decode cX7_question 128 = .ok (.aload_n 0, 1) := by decide +kernel
theorem dX7_question_129 : decode cX7_question 129 = .ok (.getfield 98, 3) := by decide +kernel
theorem dX7_question_132 : decode cX7_question 132 = .ok (.iload_n 1, 1) := by decide +kernel
theorem dX7_question_133 : decode cX7_question 133 = .ok (.iastore, 1) := by decide +kernel
theorem dX7_question_134 : decode cX7_question 134 = .ok (.aload_n 0, 1) := by decide +kernel
theorem dX7_question_135 : decode cX7_question 135 = .ok (.getfield 19, 3) := by decide +kernel
theorem dX7_question_138 : decode cX7_question 138 = .ok (.aload_n 0, 1) := by decide +kernel
theorem dX7_question_139 : decode cX7_question 139 = .ok (.getfield 98, 3) := by decide +kernel
theorem dX7_question_142 : decode cX7_question 142 = .ok (.iload_n 2, 1) := by decide +kernel
theorem dX7_question_143 : decode cX7_question 143 = .ok (.iastore, 1) := by decide +kernel
theorem dX7_question_144 : decode cX7_question 144 = .ok (.aload_n 0, 1) := by decide +kernel
theorem dX7_question_145 : decode cX7_question 145 = .ok (.getfield 22, 3) := by decide +kernel
theorem dX7_question_148 : decode cX7_question 148 = .ok (.aload_n 0, 1) := by decide +kernel
theorem dX7_question_149 : decode cX7_question 149 = .ok (.getfield 98, 3) := by decide +kernel
theorem dX7_question_152 : decode cX7_question 152 = .ok (.iload_n 3, 1) := by decide +kernel
theorem dX7_question_153 : decode cX7_question 153 = .ok (.iastore, 1) := by decide +kernel
theorem dX7_question_154 : decode cX7_question 154 = .ok (.aload_n 0, 1) := by decide +kernel
theorem dX7_question_155 : decode cX7_question 155 = .ok (.getfield 25, 3) := by decide +kernel
theorem dX7_question_158 : decode cX7_question 158 = .ok (.aload_n 0, 1) := by decide +kernel
theorem dX7_question_159 : decode cX7_question 159 = .ok (.getfield 98, 3) := by decide +kernel
theorem dX7_question_162 : decode cX7_question 162 = .ok (.iload 4, 2) := by decide +kernel
theorem dX7_question_164 : decode cX7_question 164 = .ok (.iastore, 1) := by decide +kernel
theorem dX7_question_165 : decode cX7_question 165 = .ok (.aload_n 0, 1) := by decide +kernel
theorem dX7_question_166 : decode cX7_question 166 = .ok (.dup, 1) := by decide +kernel
theorem dX7_question_167 : decode cX7_question 167 = .ok (.getfield 98, 3) := by decide +kernel
theorem dX7_question_170 : decode cX7_question 170 = .ok (.iconst 1, 1) := by decide +kernel
theorem dX7_question_171 : decode cX7_question 171 = .ok (.iadd, 1) := by decide +kernel
theorem dX7_question_172 : decode cX7_question 172 = .ok (.putfield 98, 3) := by decide +kernel
theorem dX7_question_175 : decode cX7_question 175 = .ok (.aload_n 0, 1) := by decide +kernel
theorem dX7_question_176 : decode cX7_question 176 = .ok (.getfield 98, 3) := by decide +kernel
theorem dX7_question_179 : decode cX7_question 179 = .ok (.iconst 1, 1) := by decide +kernel
theorem dX7_question_180 : decode cX7_question 180 = .ok (.isub, 1) := by decide +kernel
theorem dX7_question_181 : decode cX7_question 181 = .ok (.ireturn, 1) := by decide +kernel
theorem dX7_session_0 : decode cX7_session 0 = .ok (.aload_n 0, 1) := by decide +kernel
theorem dX7_session_1 : decode cX7_session 1 = .ok (.iconst 0, 1) := by decide +kernel
theorem dX7_session_2 : decode cX7_session 2 = .ok (.putfield 83, 3) := by decide +kernel
theorem dX7_session_5 : decode cX7_session 5 = .ok (.iload_n 1, 1) := by decide +kernel
theorem dX7_session_6 : decode cX7_session 6 = .ok (.iconst 0, 1) := by decide +kernel
theorem dX7_session_7 : decode cX7_session 7 = .ok (.bipush 7, 2) := by decide +kernel
theorem dX7_session_9 : decode cX7_session 9 = .ok (.invokestatic 87, 3) := by decide +kernel
theorem dX7_session_12 : decode cX7_session 12 = .ok (.ifCond .eq 23, 3) := by decide +kernel
theorem dX7_session_15 : decode cX7_session 15 = .ok (.iload_n 2, 1) := by decide +kernel
theorem dX7_session_16 : decode cX7_session 16 = .ok (.iconst 1, 1) := by decide +kernel
theorem dX7_session_17 : decode cX7_session 17 = .ok (.sipush 1000, 3) := by decide +kernel
theorem dX7_session_20 : decode cX7_session 20 = .ok (.invokestatic 87, 3) := by decide +kernel
theorem dX7_session_23 : decode cX7_session 23 = .ok (.ifCond .eq 12, 3) := by decide +kernel
theorem dX7_session_26 : decode cX7_session 26 = .ok (.aload_n 0, 1) := by decide +kernel
theorem dX7_session_27 : decode cX7_session 27 = .ok (.getfield 107, 3) := by decide +kernel
theorem dX7_session_30 : decode cX7_session 30 = .ok (.bipush 8, 2) := by decide +kernel
theorem dX7_session_32 : decode cX7_session 32 = .ok (.if_icmp .ne 5, 3) := by decide +kernel
theorem dX7_session_35 : decode cX7_session 35 = .ok (.iconst (-1), 1) := by decide +kernel
theorem dX7_session_36 : decode cX7_session 36 = .ok (.ireturn, 1) := by decide +kernel
theorem dX7_session_37 : decode cX7_session 37 = .ok (.aload_n 0, 1) := by decide +kernel
theorem dX7_session_38 : decode cX7_session 38 = .ok (.getfield 32, 3) := by decide +kernel
theorem dX7_session_41 : decode cX7_session 41 = .ok (.aload_n 0, 1) := by decide +kernel
theorem dX7_session_42 : decode cX7_session 42 = .ok (.getfield 107, 3) := by decide +kernel
theorem dX7_session_45 : decode cX7_session 45 = .ok (.iload_n 1, 1) := by decide +kernel
theorem dX7_session_46 : decode cX7_session 46 = .ok (.iastore, 1) := by decide +kernel
theorem dX7_session_47 : decode cX7_session 47 = .ok (.aload_n 0, 1) := by decide +kernel
theorem dX7_session_48 : decode cX7_session 48 = .ok (.getfield 35, 3) := by decide +kernel
theorem dX7_session_51 : decode cX7_session 51 = .ok (.aload_n 0, 1) := by decide +kernel
theorem dX7_session_52 : decode cX7_session 52 = .ok (.getfield 107, 3) := by decide +kernel
theorem dX7_session_55 : decode cX7_session 55 = .ok (.iload_n 2, 1) := by decide +kernel
theorem dX7_session_56 : decode cX7_session 56 = .ok (.iastore, 1) := by decide +kernel
theorem dX7_session_57 : decode cX7_session 57 = .ok (.aload_n 0, 1) := by decide +kernel
theorem dX7_session_58 : decode cX7_session 58 = .ok (.dup, 1) := by decide +kernel
theorem dX7_session_59 : decode cX7_session 59 = .ok (.getfield 107, 3) := by decide +kernel
theorem dX7_session_62 : decode cX7_session 62 = .ok (.iconst 1, 1) := by decide +kernel
theorem dX7_session_63 : decode cX7_session 63 = .ok (.iadd, 1) := by decide +kernel
theorem dX7_session_64 : decode cX7_session 64 = .ok (.putfield 107, 3) := by decide +kernel
theorem dX7_session_67 : decode cX7_session 67 = .ok (.aload_n 0, 1) := by decide +kernel
theorem dX7_session_68 : decode cX7_session 68 = .ok (.getfield 107, 3) := by decide +kernel
theorem dX7_session_71 : decode cX7_session 71 = .ok (.iconst 1, 1) := by decide +kernel
theorem dX7_session_72 : decode cX7_session 72 = .ok (.isub, 1) := by decide +kernel
theorem dX7_session_73 : decode cX7_session 73 = .ok (.ireturn, 1) := by decide +kernel
theorem dX7_isOpen_0 : decode cX7_isOpen 0 = .ok (.iload_n 1, 1) := by decide +kernel
theorem dX7_isOpen_1 : decode cX7_isOpen 1 = .ok (.iconst 0, 1) := by decide +kernel
theorem dX7_isOpen_2 : decode cX7_isOpen 2 = .ok (.aload_n 0, 1) := by decide +kernel
theorem dX7_isOpen_3 : decode cX7_isOpen 3 = .ok (.getfield 107, 3) := by decide +kernel
theorem dX7_isOpen_6 : decode cX7_isOpen 6 = .ok (.iconst 1, 1) := by decide +kernel
theorem dX7_isOpen_7 : decode cX7_isOpen 7 = .ok (.isub, 1) := by decide +kernel
theorem dX7_isOpen_8 : decode cX7_isOpen 8 = .ok (.invokestatic 87, 3) := by decide +kernel
theorem dX7_isOpen_11 : decode cX7_isOpen 11 = .ok (.ifCond .eq 16, 3) := by decide +kernel
theorem dX7_isOpen_14 : decode cX7_isOpen 14 = .ok (.aload_n 0, 1) := by decide +kernel
theorem dX7_isOpen_15 : decode cX7_isOpen 15 = .ok (.getfield 38, 3) := by decide +kernel
theorem dX7_isOpen_18 : decode cX7_isOpen 18 = .ok (.iload_n 1, 1) := by decide +kernel
theorem dX7_isOpen_19 : decode cX7_isOpen 19 = .ok (.baload, 1) := by decide +kernel
theorem dX7_isOpen_20 : decode cX7_isOpen 20 = .ok (.ifCond .ne 7, 3) := by decide +kernel
theorem dX7_isOpen_23 : decode cX7_isOpen 23 = .ok (.iconst 1, 1) := by decide +kernel
theorem dX7_isOpen_24 : decode cX7_isOpen 24 = .ok (.goto 4, 3) := by decide +kernel
theorem dX7_isOpen_27 : decode cX7_isOpen 27 = .ok (.iconst 0, 1) := by decide +kernel
theorem dX7_isOpen_28 : decode cX7_isOpen 28 = .ok (.ireturn, 1) := by decide +kernel
theorem dX7_end_0 : decode cX7_end 0 = .ok (.aload_n 0, 1) := by decide +kernel
theorem dX7_end_1 : decode cX7_end 1 = .ok (.getfield 38, 3) := by decide +kernel
theorem dX7_end_4 : decode cX7_end 4 = .ok (.iload_n 1, 1) := by decide +kernel
theorem dX7_end_5 : decode cX7_end 5 = .ok (.iconst 1, 1) := by decide +kernel
theorem dX7_end_6 : decode cX7_end 6 = .ok (.bastore, 1) := by decide +kernel
theorem dX7_end_7 : decode cX7_end 7 = .ok (.iconst 5, 1) := by decide +kernel
theorem dX7_end_8 : decode cX7_end 8 = .ok (.iload_n 1, 1) := by decide +kernel
theorem dX7_end_9 : decode cX7_end 9 = .ok (.imul, 1) := by decide +kernel
theorem dX7_end_10 : decode cX7_end 10 = .ok (.istore_n 2, 1) := by decide +kernel
theorem dX7_end_11 : decode cX7_end 11 = .ok (.iload_n 2, 1) := by decide +kernel
theorem dX7_end_12 : decode cX7_end 12 = .ok (.iconst 5, 1) := by decide +kernel
theorem dX7_end_13 : decode cX7_end 13 = .ok (.iload_n 1, 1) := by decide +kernel
theorem dX7_end_14 : decode cX7_end 14 = .ok (.imul, 1) := by decide +kernel
theorem dX7_end_15 : decode cX7_end 15 = .ok (.iconst 5, 1) := by decide +kernel
theorem dX7_end_16 : decode cX7_end 16 = .ok (.iadd, 1) := by decide +kernel
theorem dX7_end_17 : decode cX7_end 17 = .ok (.if_icmp .ge 16, 3) := by decide +kernel
theorem dX7_end_20 : decode cX7_end 20 = .ok (.aload_n 0, 1) := by decide +kernel
theorem dX7_end_21 : decode cX7_end 21 = .ok (.getfield 47, 3) := by decide +kernel
theorem dX7_end_24 : decode cX7_end 24 = .ok (.iload_n 2, 1) := by decide +kernel
theorem dX7_end_25 : decode cX7_end 25 = .ok (.iconst (-1), 1) := by decide +kernel
theorem dX7_end_26 : decode cX7_end 26 = .ok (.iastore, 1) := by decide +kernel
theorem dX7_end_27 : decode cX7_end 27 = .ok (.iinc 2 1, 3) := by decide +kernel
theorem dX7_end_30 : decode cX7_end 30 = .ok (.goto (-19), 3) := by decide +kernel
theorem dX7_end_33 : decode cX7_end 33 = .ok (.return_, 1) := by decide +kernel
theorem dX7_tell_0 : decode cX7_tell 0 = .ok (.aload_n 0, 1) := by decide +kernel
theorem dX7_tell_1 : decode cX7_tell 1 = .ok (.getfield 41, 3) := by decide +kernel
theorem dX7_tell_4 : decode cX7_tell 4 = .ok (.iload_n 1, 1) := by decide +kernel
theorem dX7_tell_5 : decode cX7_tell 5 = .ok (.dup2, 1) := by decide +kernel
theorem dX7_tell_6 : decode cX7_tell 6 = .ok (.iaload, 1) := by decide +kernel
theorem dX7_tell_7 : decode cX7_tell 7 = .ok (.iconst 1, 1) := by decide +kernel
theorem dX7_tell_8 : decode cX7_tell 8 = .ok (.iadd, 1) := by decide +kernel
theorem dX7_tell_9 : decode cX7_tell 9 = .ok (.iastore, 1) := by decide +kernel
theorem dX7_tell_10 : decode cX7_tell 10 = .ok (.aload_n 0, 1) := by decide +kernel
theorem dX7_tell_11 : decode cX7_tell 11 = .ok (.getfield 44, 3) := by decide +kernel
theorem dX7_tell_14 : decode cX7_tell 14 = .ok (.iload_n 1, 1) := by decide +kernel
theorem dX7_tell_15 : decode cX7_tell 15 = .ok (.iload_n 2, 1) := by decide +kernel
theorem dX7_tell_16 : decode cX7_tell 16 = .ok (.iastore, 1) := by decide +kernel
theorem dX7_tell_17 : decode cX7_tell 17 = .ok (.aload_n 0, 1) := by decide +kernel
theorem dX7_tell_18 : decode cX7_tell 18 = .ok (.getfield 41, 3) := by decide +kernel
theorem dX7_tell_21 : decode cX7_tell 21 = .ok (.iload_n 1, 1) := by decide +kernel
theorem dX7_tell_22 : decode cX7_tell 22 = .ok (.iaload, 1) := by decide +kernel
theorem dX7_tell_23 : decode cX7_tell 23 = .ok (.iconst 3, 1) := by decide +kernel
theorem dX7_tell_24 : decode cX7_tell 24 = .ok (.if_icmp .ne 8, 3) := by decide +kernel
theorem dX7_tell_27 : decode cX7_tell 27 = .ok (.aload_n 0, 1) := by decide +kernel
theorem dX7_tell_28 : decode cX7_tell 28 = .ok (.iload_n 1, 1) := by decide +kernel
theorem dX7_tell_29 : decode cX7_tell 29 = .ok (.invokevirtual 110, 3) := by decide +kernel
theorem dX7_tell_32 : decode cX7_tell 32 = .ok (.iload_n 2, 1) := by decide +kernel
theorem dX7_tell_33 : decode cX7_tell 33 = .ok (.ineg, 1) := by decide +kernel
theorem dX7_tell_34 : decode cX7_tell 34 = .ok (.ireturn, 1) := by decide +kernel
theorem dX7_isName_0 : decode cX7_isName 0 = .ok (.iload_n 2, 1) := by decide +kernel
theorem dX7_isName_1 : decode cX7_isName 1 = .ok (.iconst 0, 1) := by decide +kernel
theorem dX7_isName_2 : decode cX7_isName 2 = .ok (.aload_n 0, 1) := by decide +kernel
theorem dX7_isName_3 : decode cX7_isName 3 = .ok (.getfield 32, 3) := by decide +kernel
theorem dX7_isName_6 : decode cX7_isName 6 = .ok (.iload_n 1, 1) := by decide +kernel
theorem dX7_isName_7 : decode cX7_isName 7 = .ok (.iaload, 1) := by decide +kernel
theorem dX7_isName_8 : decode cX7_isName 8 = .ok (.iconst 4, 1) := by decide +kernel
theorem dX7_isName_9 : decode cX7_isName 9 = .ok (.iand, 1) := by decide +kernel
theorem dX7_isName_10 : decode cX7_isName 10 = .ok (.iconst 4, 1) := by decide +kernel
theorem dX7_isName_11 : decode cX7_isName 11 = .ok (.if_icmp .ne 7, 3) := by decide +kernel
theorem dX7_isName_14 : decode cX7_isName 14 = .ok (.iconst 4, 1) := by decide +kernel
theorem dX7_isName_15 : decode cX7_isName 15 = .ok (.goto 4, 3) := by decide +kernel
theorem dX7_isName_18 : decode cX7_isName 18 = .ok (.iconst 0, 1) := by decide +kernel
theorem dX7_isName_19 : decode cX7_isName 19 = .ok (.invokestatic 87, 3) := by decide +kernel
theorem dX7_isName_22 : decode cX7_isName 22 = .ok (.ireturn, 1) := by decide +kernel
theorem dX7_isSet_0 : decode cX7_isSet 0 = .ok (.aload_n 0, 1) := by decide +kernel
theorem dX7_isSet_1 : decode cX7_isSet 1 = .ok (.iload_n 1, 1) := by decide +kernel
theorem dX7_isSet_2 : decode cX7_isSet 2 = .ok (.iload_n 2, 1) := by decide +kernel
theorem dX7_isSet_3 : decode cX7_isSet 3 = .ok (.invokevirtual 114, 3) := by decide +kernel
theorem dX7_isSet_6 : decode cX7_isSet 6 = .ok (.ifCond .eq 20, 3) := by decide +kernel
theorem dX7_isSet_9 : decode cX7_isSet 9 = .ok (.aload_n 0, 1) := by decide +kernel
theorem dX7_isSet_10 : decode cX7_isSet 10 = .ok (.getfield 47, 3) := by decide +kernel
theorem dX7_isSet_13 : decode cX7_isSet 13 = .ok (.iconst 5, 1) := by decide +kernel
theorem dX7_isSet_14 : decode cX7_isSet 14 = .ok (.iload_n 1, 1) := by decide +kernel
theorem dX7_isSet_15 : decode cX7_isSet 15 = .ok (.imul, 1) := by decide +kernel
theorem dX7_isSet_16 : decode cX7_isSet 16 = .ok (.iload_n 2, 1) := by decide +kernel
theorem dX7_isSet_17 : decode cX7_isSet 17 = .ok (.iadd, 1) := by decide +kernel
theorem dX7_isSet_18 : decode cX7_isSet 18 = .ok (.iaload, 1) := by decide +kernel
theorem dX7_isSet_19 : decode cX7_isSet 19 = .ok (.ifCond .lt 7, 3) := by decide +kernel
theorem dX7_isSet_22 : decode cX7_isSet 22 = .ok (.iconst 1, 1) := by decide +kernel
theorem dX7_isSet_23 : decode cX7_isSet 23 = .ok (.goto 4, 3) := by decide +kernel
theorem dX7_isSet_26 : decode cX7_isSet 26 = .ok (.iconst 0, 1) := by decide +kernel
theorem dX7_isSet_27 : decode cX7_isSet 27 = .ok (.ireturn, 1) := by decide +kernel
theorem dX7_meets_0 : decode cX7_meets 0 = .ok (.iconst 0, 1) := by decide +kernel
theorem dX7_meets_1 : decode cX7_meets 1 = .ok (.istore_n 3, 1) := by decide +kernel
theorem dX7_meets_2 : decode cX7_meets 2 = .ok (.iload_n 3, 1) := by decide +kernel
theorem dX7_meets_3 : decode cX7_meets 3 = .ok (.iload_n 2, 1) := by decide +kernel
theorem dX7_meets_4 : decode cX7_meets 4 = .ok (.if_icmp .gt 252, 3) := by decide +kernel
theorem dX7_meets_7 : decode cX7_meets 7 = .ok (.aload_n 0, 1) := by decide +kernel
theorem dX7_meets_8 : decode cX7_meets 8 = .ok (.getfield 16, 3) := by decide +kernel
theorem dX7_meets_11 : decode cX7_meets 11 = .ok (.iload_n 3, 1) := by decide +kernel
theorem dX7_meets_12 : decode cX7_meets 12 = .ok (.iaload, 1) := by decide +kernel
theorem dX7_meets_13 : decode cX7_meets 13 = .ok (.iconst 2, 1) := by decide +kernel
theorem dX7_meets_14 : decode cX7_meets 14 = .ok (.if_icmp .ge 21, 3) := by decide +kernel
theorem dX7_meets_17 : decode cX7_meets 17 = .ok (.aload_n 0, 1) := by decide +kernel
theorem dX7_meets_18 : decode cX7_meets 18 = .ok (.getfield 13, 3) := by decide +kernel
theorem dX7_meets_21 : decode cX7_meets 21 = .ok (.iconst 5, 1) := by decide +kernel
theorem dX7_meets_22 : decode cX7_meets 22 = .ok (.iload_n 1, 1) := by decide +kernel
theorem dX7_meets_23 : decode cX7_meets 23 = .ok (.imul, 1) := by decide +kernel
theorem dX7_meets_24 : decode cX7_meets 24 = .ok (.aload_n 0, 1) := by decide +kernel
theorem dX7_meets_25 : decode cX7_meets 25 = .ok (.getfield 19, 3) := by decide +kernel
theorem dX7_meets_28 : decode cX7_meets 28 = .ok (.iload_n 3, 1) := by decide +kernel
theorem dX7_meets_29 : decode cX7_meets 29 = .ok (.iaload, 1) := by decide +kernel
theorem dX7_meets_30 : decode cX7_meets 30 = .ok (.iadd, 1) := by decide +kernel
theorem dX7_meets_31 : decode cX7_meets 31 = .ok (.iaload, 1) := by decide +kernel
theorem dX7_meets_32 : decode cX7_meets 32 = .ok (.goto 4, 3) := by decide +kernel
theorem dX7_meets_35 : decode cX7_meets 35 = .ok (.iconst (-1), 1) := by decide +kernel
theorem dX7_meets_36 : decode cX7_meets 36 = .ok (.istore 4, 2) := by decide +kernel
theorem dX7_meets_38 : decode cX7_meets 38 = .ok (.aload_n 0, 1) := by decide +kernel
theorem dX7_meets_39 : decode cX7_meets 39 = .ok (.getfield 16, 3) := by decide +kernel
theorem dX7_meets_42 : decode cX7_meets 42 = .ok (.iload_n 3, 1) := by decide +kernel
theorem dX7_meets_43 : decode cX7_meets 43 = .ok (.iaload, 1) := by decide +kernel
theorem dX7_meets_44 : decode cX7_meets 44 = .ok (.tableswitch 167 0 3 #[32, 57, 83, 125], 32) := by decide +kernel
theorem dX7_meets_76 : decode cX7_meets 76 = .ok (.aload_n 0, 1) := by decide +kernel
theorem dX7_meets_77 : decode cX7_meets 77 = .ok (.getfield 28, 3) := by decide +kernel
theorem dX7_meets_80 : decode cX7_meets 80 = .ok (.iload_n 3, 1) := by decide +kernel
theorem dX7_meets_81 : decode cX7_meets 81 = .ok (.iload 4, 2) := by decide +kernel
theorem dX7_meets_83 : decode cX7_meets 83 = .ok (.aload_n 0, 1) := by decide +kernel
theorem dX7_meets_84 : decode cX7_meets 84 = .ok (.getfield 22, 3) := by decide +kernel
theorem dX7_meets_87 : decode cX7_meets 87 = .ok (.iload_n 3, 1) := by decide +kernel
theorem dX7_meets_88 : decode cX7_meets 88 = .ok (.iaload, 1) := by decide +kernel
theorem dX7_meets_89 : decode cX7_meets 89 = .ok (.if_icmp .ne 7, 3) := by decide +kernel
theorem dX7_meets_92 : decode cX7_meets 92 = .ok (.iconst 1, 1) := by decide +kernel
theorem dX7_meets_93 : decode cX7_meets 93 = .ok (.goto 4, 3) := by decide +kernel
theorem dX7_meets_96 : decode cX7_meets 96 = .ok (.iconst 0, 1) := by decide +kernel
theorem dX7_meets_97 : decode cX7_meets 97 = .ok (.bastore, 1) := by decide +kernel
theorem dX7_meets_98 : decode cX7_meets 98 = .ok (.goto 152, 3) := by decide +kernel
theorem dX7_meets_101 : decode cX7_meets 101 = .ok (.aload_n 0, 1) := by decide +kernel
theorem dX7_meets_102 : decode cX7_meets 102 = .ok (.getfield 28, 3) := by decide +kernel
theorem dX7_meets_105 : decode cX7_meets 105 = .ok (.iload_n 3, 1) := by decide +kernel
theorem dX7_meets_106 : decode cX7_meets 106 = .ok (.iload 4, 2) := by decide +kernel
theorem dX7_meets_108 : decode cX7_meets 108 = .ok (.aload_n 0, 1) := by decide +kernel
theorem dX7_meets_109 : decode cX7_meets 109 = .ok (.getfield 22, 3) := by decide +kernel
theorem dX7_meets_112 : decode cX7_meets 112 = .ok (.iload_n 3, 1) := by decide +kernel
theorem dX7_meets_113 : decode cX7_meets 113 = .ok (.iaload, 1) := by decide +kernel
theorem dX7_meets_114 : decode cX7_meets 114 = .ok (.aload_n 0, 1) := by decide +kernel
theorem dX7_meets_115 : decode cX7_meets 115 = .ok (.getfield 25, 3) := by decide +kernel
theorem dX7_meets_118 : decode cX7_meets 118 = .ok (.iload_n 3, 1) := by decide +kernel
theorem dX7_meets_119 : decode cX7_meets 119 = .ok (.iaload, 1) := by decide +kernel
theorem dX7_meets_120 : decode cX7_meets 120 = .ok (.invokestatic 87, 3) := by decide +kernel
theorem dX7_meets_123 : decode cX7_meets 123 = .ok (.bastore, 1) := by decide +kernel
theorem dX7_meets_124 : decode cX7_meets 124 = .ok (.goto 126, 3) := by decide +kernel
theorem dX7_meets_127 : decode cX7_meets 127 = .ok (.aload_n 0, 1) := by decide +kernel
theorem dX7_meets_128 : decode cX7_meets 128 = .ok (.getfield 28, 3) := by decide +kernel
theorem dX7_meets_131 : decode cX7_meets 131 = .ok (.iload_n 3, 1) := by decide +kernel
theorem dX7_meets_132 : decode cX7_meets 132 = .ok (.aload_n 0, 1) := by decide +kernel
theorem dX7_meets_133 : decode cX7_meets 133 = .ok (.getfield 28, 3) := by decide +kernel
theorem dX7_meets_136 : decode cX7_meets 136 = .ok (.aload_n 0, 1) := by decide +kernel
theorem dX7_meets_137 : decode cX7_meets 137 = .ok (.getfield 19, 3) := by decide +kernel
theorem dX7_meets_140 : decode cX7_meets 140 = .ok (.iload_n 3, 1) := by decide +kernel
theorem dX7_meets_141 : decode cX7_meets 141 = .ok (.iaload, 1) := by decide +kernel
theorem dX7_meets_142 : decode cX7_meets 142 = .ok (.baload, 1) := by decide +kernel
theorem dX7_meets_143 : decode cX7_meets 143 = .ok (.ifCond .eq 21, 3) := by decide +kernel
theorem dX7_meets_146 : decode cX7_meets 146 = .ok (.aload_n 0, 1) := by decide +kernel
theorem dX7_meets_147 : decode cX7_meets 147 = .ok (.getfield 28, 3) := by decide +kernel
theorem dX7_meets_150 : decode cX7_meets 150 = .ok (.aload_n 0, 1) := by decide +kernel
theorem dX7_meets_151 : decode cX7_meets 151 = .ok (.getfield 22, 3) := by decide +kernel
theorem dX7_meets_154 : decode cX7_meets 154 = .ok (.iload_n 3, 1) := by decide +kernel
theorem dX7_meets_155 : decode cX7_meets 155 = .ok (.iaload, 1) := by decide +kernel
theorem dX7_meets_156 : decode cX7_meets 156 = .ok (.baload, 1) := by decide +kernel
theorem dX7_meets_157 : decode cX7_meets 157 = .ok (.ifCond .eq 7, 3) := by decide +kernel
theorem dX7_meets_160 : decode cX7_meets 160 = .ok (.iconst 1, 1) := by decide +kernel
theorem dX7_meets_161 : decode cX7_meets 161 = .ok (.goto 4, 3) := by decide +kernel
theorem dX7_meets_164 : decode cX7_meets 164 = .ok (.iconst 0, 1) := by decide +kernel
theorem dX7_meets_165 : decode cX7_meets 165 = .ok (.bastore, 1) := by decide +kernel
theorem dX7_meets_166 : decode cX7_meets 166 = .ok (.goto 84, 3) := by decide +kernel
theorem dX7_meets_169 : decode cX7_meets 169 = .ok (.aload_n 0, 1) := by decide +kernel
theorem dX7_meets_170 : decode cX7_meets 170 = .ok (.getfield 28, 3) := by decide +kernel
theorem dX7_meets_173 : decode cX7_meets 173 = .ok (.iload_n 3, 1) := by decide +kernel
theorem dX7_meets_174 : decode cX7_meets 174 = .ok (.aload_n 0, 1) := by decide +kernel
theorem dX7_meets_175 : decode cX7_meets 175 = .ok (.getfield 28, 3) := by decide +kernel
theorem dX7_meets_178 : decode cX7_meets 178 = .ok (.aload_n 0, 1) := by decide +kernel
theorem dX7_meets_179 : decode cX7_meets 179 = .ok (.getfield 19, 3) := by decide +kernel
theorem dX7_meets_182 : decode cX7_meets 182 = .ok (.iload_n 3, 1) := by decide +kernel
theorem dX7_meets_183 : decode cX7_meets 183 = .ok (.iaload, 1) := by decide +kernel
theorem dX7_meets_184 : decode cX7_meets 184 = .ok (.baload, 1) := by decide +kernel
theorem dX7_meets_185 : decode cX7_meets 185 = .ok (.ifCond .ne 17, 3) := by decide +kernel
theorem dX7_meets_188 : decode cX7_meets 188 = .ok (.aload_n 0, 1) := by decide +kernel
theorem dX7_meets_189 : decode cX7_meets 189 = .ok (.getfield 28, 3) := by decide +kernel
theorem dX7_meets_192 : decode cX7_meets 192 = .ok (.aload_n 0, 1) := by decide +kernel
theorem dX7_meets_193 : decode cX7_meets 193 = .ok (.getfield 22, 3) := by decide +kernel
theorem dX7_meets_196 : decode cX7_meets 196 = .ok (.iload_n 3, 1) := by decide +kernel
theorem dX7_meets_197 : decode cX7_meets 197 = .ok (.iaload, 1) := by decide +kernel
theorem dX7_meets_198 : decode cX7_meets 198 = .ok (.baload, 1) := by decide +kernel
theorem dX7_meets_199 : decode cX7_meets 199 = .ok (.ifCond .eq 7, 3) := by decide +kernel
theorem dX7_meets_202 : decode cX7_meets 202 = .ok (.iconst 1, 1) := by decide +kernel
theorem dX7_meets_203 : decode cX7_meets 203 = .ok (.goto 4, 3) := by decide +kernel
theorem dX7_meets_206 : decode cX7_meets 206 = .ok (.iconst 0, 1) := by decide +kernel
theorem dX7_meets_207 : decode cX7_meets 207 = .ok (.bastore, 1) := by decide +kernel
theorem dX7_meets_208 : decode cX7_meets 208 = .ok (.goto 42, 3) := by decide +kernel
theorem dX7_meets_211 : decode cX7_meets 211 = .ok (.aload_n 0, 1) := by decide +kernel
theorem dX7_meets_212 : decode cX7_meets 212 = .ok (.getfield 28, 3) := by decide +kernel
theorem dX7_meets_215 : decode cX7_meets 215 = .ok (.iload_n 3, 1) := by decide +kernel
theorem dX7_meets_216 : decode cX7_meets 216 = .ok (.aload_n 0, 1) := by decide +kernel
theorem dX7_meets_217 : decode cX7_meets 217 = .ok (.getfield 28, 3) := by decide +kernel
theorem dX7_meets_220 : decode cX7_meets 220 = .ok (.aload_n 0, 1) := by decide +kernel
theorem dX7_meets_221 : decode cX7_meets 221 = .ok (.getfield 19, 3) := by decide +kernel
theorem dX7_meets_224 : decode cX7_meets 224 = .ok (.iload_n 3, 1) := by decide +kernel
theorem dX7_meets_225 : decode cX7_meets 225 = .ok (.iaload, 1) := by decide +kernel
theorem dX7_meets_226 : decode cX7_meets 226 = .ok (.baload, 1) := by decide +kernel
theorem dX7_meets_227 : decode cX7_meets 227 = .ok (.ifCond .eq 21, 3) := by decide +kernel
theorem dX7_meets_230 : decode cX7_meets 230 = .ok (.aload_n 0, 1) := by decide +kernel
theorem dX7_meets_231 : decode cX7_meets 231 = .ok (.getfield 28, 3) := by decide +kernel
theorem dX7_meets_234 : decode cX7_meets 234 = .ok (.aload_n 0, 1) := by decide +kernel
theorem dX7_meets_235 : decode cX7_meets 235 = .ok (.getfield 22, 3) := by decide +kernel
theorem dX7_meets_238 : decode cX7_meets 238 = .ok (.iload_n 3, 1) := by decide +kernel
theorem dX7_meets_239 : decode cX7_meets 239 = .ok (.iaload, 1) := by decide +kernel
theorem dX7_meets_240 : decode cX7_meets 240 = .ok (.baload, 1) := by decide +kernel
theorem dX7_meets_241 : decode cX7_meets 241 = .ok (.ifCond .ne 7, 3) := by decide +kernel
theorem dX7_meets_244 : decode cX7_meets 244 = .ok (.iconst 1, 1) := by decide +kernel
theorem dX7_meets_245 : decode cX7_meets 245 = .ok (.goto 4, 3) := by decide +kernel
theorem dX7_meets_248 : decode cX7_meets 248 = .ok (.iconst 0, 1) := by decide +kernel
theorem dX7_meets_249 : decode cX7_meets 249 = .ok (.bastore, 1) := by decide +kernel
theorem dX7_meets_250 : decode cX7_meets 250 = .ok (.iinc 3 1, 3) := by decide +kernel
theorem dX7_meets_253 : decode cX7_meets 253 = .ok (.goto (-251), 3) := by decide +kernel
theorem dX7_meets_256 : decode cX7_meets 256 = .ok (.aload_n 0, 1) := by decide +kernel
theorem dX7_meets_257 : decode cX7_meets 257 = .ok (.getfield 28, 3) := by decide +kernel
theorem dX7_meets_260 : decode cX7_meets 260 = .ok (.iload_n 2, 1) := by decide +kernel
theorem dX7_meets_261 : decode cX7_meets 261 = .ok (.baload, 1) := by decide +kernel
theorem dX7_meets_262 : decode cX7_meets 262 = .ok (.ireturn, 1) := by decide +kernel
theorem dX7_search_0 : decode cX7_search 0 = .ok (.aload_n 0, 1) := by decide +kernel
theorem dX7_search_1 : decode cX7_search 1 = .ok (.iconst 0, 1) := by decide +kernel
theorem dX7_search_2 : decode cX7_search 2 = .ok (.putfield 83, 3) := by decide +kernel
theorem dX7_search_5 : decode cX7_search 5 = .ok (.aload_n 0, 1) := by decide +kernel
theorem dX7_search_6 : decode cX7_search 6 = .ok (.iload_n 1, 1) := by decide +kernel
theorem dX7_search_7 : decode cX7_search 7 = .ok (.invokevirtual 118, 3) := by decide +kernel
theorem dX7_search_10 : decode cX7_search 10 = .ok (.ifCond .ne 6, 3) := by decide +kernel
theorem dX7_search_13 : decode cX7_search 13 = .ok (.bipush (-101), 2) := by decide +kernel
theorem dX7_search_15 : decode cX7_search 15 = .ok (.ireturn, 1) := by decide +kernel
theorem dX7_search_16 : decode cX7_search 16 = .ok (.aload_n 0, 1) := by decide +kernel
theorem dX7_search_17 : decode cX7_search 17 = .ok (.iload_n 2, 1) := by decide +kernel
theorem dX7_search_18 : decode cX7_search 18 = .ok (.invokevirtual 104, 3) := by decide +kernel
theorem dX7_search_21 : decode cX7_search 21 = .ok (.ifCond .ne 11, 3) := by decide +kernel
theorem dX7_search_24 : decode cX7_search 24 = .ok (.aload_n 0, 1) := by decide +kernel
theorem dX7_search_25 : decode cX7_search 25 = .ok (.iload_n 1, 1) := by decide +kernel
theorem dX7_search_26 : decode cX7_search 26 = .ok (.bipush 103, 2) := by decide +kernel
theorem dX7_search_28 : decode cX7_search 28 = .ok (.invokevirtual 121, 3) := by decide +kernel
theorem dX7_search_31 : decode cX7_search 31 = .ok (.ireturn, 1) := by decide +kernel
theorem dX7_search_32 : decode cX7_search 32 = .ok (.aload_n 0, 1) := by decide +kernel
theorem dX7_search_33 : decode cX7_search 33 = .ok (.iload_n 1, 1) := by decide +kernel
theorem dX7_search_34 : decode cX7_search 34 = .ok (.iload_n 3, 1) := by decide +kernel
theorem dX7_search_35 : decode cX7_search 35 = .ok (.invokevirtual 114, 3) := by decide +kernel
theorem dX7_search_38 : decode cX7_search 38 = .ok (.ifCond .ne 11, 3) := by decide +kernel
theorem dX7_search_41 : decode cX7_search 41 = .ok (.aload_n 0, 1) := by decide +kernel
theorem dX7_search_42 : decode cX7_search 42 = .ok (.iload_n 1, 1) := by decide +kernel
theorem dX7_search_43 : decode cX7_search 43 = .ok (.bipush 104, 2) := by decide +kernel
theorem dX7_search_45 : decode cX7_search 45 = .ok (.invokevirtual 121, 3) := by decide +kernel
theorem dX7_search_48 : decode cX7_search 48 = .ok (.ireturn, 1) := by decide +kernel
theorem dX7_search_49 : decode cX7_search 49 = .ok (.iconst 0, 1) := by decide +kernel
theorem dX7_search_50 : decode cX7_search 50 = .ok (.istore 4, 2) := by decide +kernel
theorem dX7_search_52 : decode cX7_search 52 = .ok (.iconst 0, 1) := by decide +kernel
theorem dX7_search_53 : decode cX7_search 53 = .ok (.istore 5, 2) := by decide +kernel
theorem dX7_search_55 : decode cX7_search 55 = .ok (.iload 5, 2) := by decide +kernel
theorem dX7_search_57 : decode cX7_search 57 = .ok (.aload_n 0, 1) := by decide +kernel
theorem dX7_search_58 : decode cX7_search 58 = .ok (.getfield 91, 3) := by decide +kernel
theorem dX7_search_61 : decode cX7_search 61 = .ok (.if_icmp .ge 43, 3) := by decide +kernel
theorem dX7_search_64 : decode cX7_search 64 = .ok (.aload_n 0, 1) := by decide +kernel
theorem dX7_search_65 : decode cX7_search 65 = .ok (.iload 5, 2) := by decide +kernel
theorem dX7_search_67 : decode cX7_search 67 = .ok (.iload_n 2, 1) := by decide +kernel
theorem dX7_search_68 : decode cX7_search 68 = .ok (.invokevirtual 125, 3) := by decide +kernel
theorem dX7_search_71 : decode cX7_search 71 = .ok (.ifCond .ne 6, 3) := by decide +kernel
theorem dX7_search_74 : decode cX7_search 74 = .ok (.goto 24, 3) := by decide +kernel
theorem dX7_search_77 : decode cX7_search 77 = .ok (.aload_n 0, 1) := by decide +kernel
theorem dX7_search_78 : decode cX7_search 78 = .ok (.getfield 50, 3) := by decide +kernel
theorem dX7_search_81 : decode cX7_search 81 = .ok (.bipush 100, 2) := by decide +kernel
theorem dX7_search_83 : decode cX7_search 83 = .ok (.iconst 5, 1) := by decide +kernel
theorem dX7_search_84 : decode cX7_search 84 = .ok (.iload_n 1, 1) := by decide +kernel
theorem dX7_search_85 : decode cX7_search 85 = .ok (.imul, 1) := by decide +kernel
theorem dX7_search_86 : decode cX7_search 86 = .ok (.iload_n 3, 1) := by decide +kernel
theorem dX7_search_87 : decode cX7_search 87 = .ok (.iadd, 1) := by decide +kernel
theorem dX7_search_88 : decode cX7_search 88 = .ok (.imul, 1) := by decide +kernel
theorem dX7_search_89 : decode cX7_search 89 = .ok (.iload 4, 2) := by decide +kernel
theorem dX7_search_91 : decode cX7_search 91 = .ok (.iadd, 1) := by decide +kernel
theorem dX7_search_92 : decode cX7_search 92 = .ok (.iload 5, 2) := by decide +kernel
theorem dX7_search_94 : decode cX7_search 94 = .ok (.iastore, 1) := by decide +kernel
theorem dX7_search_95 : decode cX7_search 95 = .ok (.iinc 4 1, 3) := by decide +kernel
theorem dX7_search_98 : decode cX7_search 98 = .ok (.iinc 5 1, 3) := by decide +kernel
theorem dX7_search_101 : decode cX7_search 101 = .ok (.goto (-46), 3) := by decide +kernel
theorem dX7_search_104 : decode cX7_search 104 = .ok (.aload_n 0, 1) := by decide +kernel
theorem dX7_search_105 : decode cX7_search 105 = .ok (.getfield 47, 3) := by decide +kernel
theorem dX7_search_108 : decode cX7_search 108 = .ok (.iconst 5, 1) := by decide +kernel
theorem dX7_search_109 : decode cX7_search 109 = .ok (.iload_n 1, 1) := by decide +kernel
theorem dX7_search_110 : decode cX7_search 110 = .ok (.imul, 1) := by decide +kernel
theorem dX7_search_111 : decode cX7_search 111 = .ok (.iload_n 3, 1) := by decide +kernel
theorem dX7_search_112 : decode cX7_search 112 = .ok (.iadd, 1) := by decide +kernel
theorem dX7_search_113 : decode cX7_search 113 = .ok (.iload 4, 2) := by decide +kernel
theorem dX7_search_115 : decode cX7_search 115 = .ok (.iastore, 1) := by decide +kernel
theorem dX7_search_116 : decode cX7_search 116 = .ok (.iload 4, 2) := by decide +kernel
theorem dX7_search_118 : decode cX7_search 118 = .ok (.ifCond .ne 13, 3) := by decide +kernel
theorem dX7_search_121 : decode cX7_search 121 = .ok (.aload_n 0, 1) := by decide +kernel
theorem dX7_search_122 : decode cX7_search 122 = .ok (.iload_n 1, 1) := by decide +kernel
theorem dX7_search_123 : decode cX7_search 123 = .ok (.bipush 108, 2) := by decide +kernel
theorem dX7_search_125 : decode cX7_search 125 = .ok (.invokevirtual 121, 3) := by decide +kernel
theorem dX7_search_128 : decode cX7_search 128 = .ok (.goto 5, 3) := by decide +kernel
theorem dX7_search_131 : decode cX7_search 131 = .ok (.iload 4, 2) := by decide +kernel
theorem dX7_search_133 : decode cX7_search 133 = .ok (.ireturn, 1) := by decide +kernel
theorem dX7_size_0 : decode cX7_size 0 = .ok (.aload_n 0, 1) := by decide +kernel
theorem dX7_size_1 : decode cX7_size 1 = .ok (.iconst 0, 1) := by decide +kernel
theorem dX7_size_2 : decode cX7_size 2 = .ok (.putfield 83, 3) := by decide +kernel
theorem dX7_size_5 : decode cX7_size 5 = .ok (.aload_n 0, 1) := by decide +kernel
theorem dX7_size_6 : decode cX7_size 6 = .ok (.iload_n 1, 1) := by decide +kernel
theorem dX7_size_7 : decode cX7_size 7 = .ok (.invokevirtual 118, 3) := by decide +kernel
theorem dX7_size_10 : decode cX7_size 10 = .ok (.ifCond .ne 6, 3) := by decide +kernel
theorem dX7_size_13 : decode cX7_size 13 = .ok (.bipush (-101), 2) := by decide +kernel
theorem dX7_size_15 : decode cX7_size 15 = .ok (.ireturn, 1) := by decide +kernel
theorem dX7_size_16 : decode cX7_size 16 = .ok (.aload_n 0, 1) := by decide +kernel
theorem dX7_size_17 : decode cX7_size 17 = .ok (.iload_n 1, 1) := by decide +kernel
theorem dX7_size_18 : decode cX7_size 18 = .ok (.iload_n 2, 1) := by decide +kernel
theorem dX7_size_19 : decode cX7_size 19 = .ok (.invokevirtual 128, 3) := by decide +kernel
theorem dX7_size_22 : decode cX7_size 22 = .ok (.ifCond .eq 16, 3) := by decide +kernel
theorem dX7_size_25 : decode cX7_size 25 = .ok (.aload_n 0, 1) := by decide +kernel
theorem dX7_size_26 : decode cX7_size 26 = .ok (.getfield 47, 3) := by decide +kernel
theorem dX7_size_29 : decode cX7_size 29 = .ok (.iconst 5, 1) := by decide +kernel
theorem dX7_size_30 : decode cX7_size 30 = .ok (.iload_n 1, 1) := by decide +kernel
theorem dX7_size_31 : decode cX7_size 31 = .ok (.imul, 1) := by decide +kernel
theorem dX7_size_32 : decode cX7_size 32 = .ok (.iload_n 2, 1) := by decide +kernel
theorem dX7_size_33 : decode cX7_size 33 = .ok (.iadd, 1) := by decide +kernel
theorem dX7_size_34 : decode cX7_size 34 = .ok (.iaload, 1) := by decide +kernel
theorem dX7_size_35 : decode cX7_size 35 = .ok (.goto 5, 3) := by decide +kernel
theorem dX7_size_38 : decode cX7_size 38 = .ok (.bipush (-104), 2) := by decide +kernel
theorem dX7_size_40 : decode cX7_size 40 = .ok (.ireturn, 1) := by decide +kernel
theorem dX7_present_0 : decode cX7_present 0 = .ok (.aload_n 0, 1) := by decide +kernel
theorem dX7_present_1 : decode cX7_present 1 = .ok (.iconst 0, 1) := by decide +kernel
theorem dX7_present_2 : decode cX7_present 2 = .ok (.putfield 83, 3) := by decide +kernel
theorem dX7_present_5 : decode cX7_present 5 = .ok (.aload_n 0, 1) := by decide +kernel
theorem dX7_present_6 : decode cX7_present 6 = .ok (.iload_n 1, 1) := by decide +kernel
theorem dX7_present_7 : decode cX7_present 7 = .ok (.invokevirtual 118, 3) := by decide +kernel
theorem dX7_present_10 : decode cX7_present 10 = .ok (.ifCond .ne 6, 3) := by decide +kernel
theorem dX7_present_13 : decode cX7_present 13 = .ok (.bipush (-101), 2) := by decide +kernel
theorem dX7_present_15 : decode cX7_present 15 = .ok (.ireturn, 1) := by decide +kernel
theorem dX7_present_16 : decode cX7_present 16 = .ok (.aload_n 0, 1) := by decide +kernel
theorem dX7_present_17 : decode cX7_present 17 = .ok (.iload_n 1, 1) := by decide +kernel
theorem dX7_present_18 : decode cX7_present 18 = .ok (.iload_n 2, 1) := by decide +kernel
theorem dX7_present_19 : decode cX7_present 19 = .ok (.invokevirtual 128, 3) := by decide +kernel
theorem dX7_present_22 : decode cX7_present 22 = .ok (.ifCond .ne 11, 3) := by decide +kernel
theorem dX7_present_25 : decode cX7_present 25 = .ok (.aload_n 0, 1) := by decide +kernel
theorem dX7_present_26 : decode cX7_present 26 = .ok (.iload_n 1, 1) := by decide +kernel
theorem dX7_present_27 : decode cX7_present 27 = .ok (.bipush 104, 2) := by decide +kernel
theorem dX7_present_29 : decode cX7_present 29 = .ok (.invokevirtual 121, 3) := by decide +kernel
theorem dX7_present_32 : decode cX7_present 32 = .ok (.ireturn, 1) := by decide +kernel
theorem dX7_present_33 : decode cX7_present 33 = .ok (.iload 4, 2) := by decide +kernel
theorem dX7_present_35 : decode cX7_present 35 = .ok (.iconst 1, 1) := by decide +kernel
theorem dX7_present_36 : decode cX7_present 36 = .ok (.if_icmp .ge 11, 3) := by decide +kernel
theorem dX7_present_39 : decode cX7_present 39 = .ok (.aload_n 0, 1) := by decide +kernel
theorem dX7_present_40 : decode cX7_present 40 = .ok (.iload_n 1, 1) := by decide +kernel
theorem dX7_present_41 : decode cX7_present 41 = .ok (.bipush 107, 2) := by decide +kernel
theorem dX7_present_43 : decode cX7_present 43 = .ok (.invokevirtual 121, 3) := by decide +kernel
theorem dX7_present_46 : decode cX7_present 46 = .ok (.ireturn, 1) := by decide +kernel
theorem dX7_present_47 : decode cX7_present 47 = .ok (.aload_n 0, 1) := by decide +kernel
theorem dX7_present_48 : decode cX7_present 48 = .ok (.getfield 47, 3) := by decide +kernel
theorem dX7_present_51 : decode cX7_present 51 = .ok (.iconst 5, 1) := by decide +kernel
theorem dX7_present_52 : decode cX7_present 52 = .ok (.iload_n 1, 1) := by decide +kernel
theorem dX7_present_53 : decode cX7_present 53 = .ok (.imul, 1) := by decide +kernel
theorem dX7_present_54 : decode cX7_present 54 = .ok (.iload_n 2, 1) := by decide +kernel
theorem dX7_present_55 : decode cX7_present 55 = .ok (.iadd, 1) := by decide +kernel
theorem dX7_present_56 : decode cX7_present 56 = .ok (.iaload, 1) := by decide +kernel
theorem dX7_present_57 : decode cX7_present 57 = .ok (.istore 5, 2) := by decide +kernel
theorem dX7_present_59 : decode cX7_present 59 = .ok (.iload_n 3, 1) := by decide +kernel
theorem dX7_present_60 : decode cX7_present 60 = .ok (.ifCond .lt 18, 3) := by decide +kernel
theorem dX7_present_63 : decode cX7_present 63 = .ok (.iload_n 3, 1) := by decide +kernel
theorem dX7_present_64 : decode cX7_present 64 = .ok (.iload 5, 2) := by decide +kernel
theorem dX7_present_66 : decode cX7_present 66 = .ok (.if_icmp .gt 12, 3) := by decide +kernel
theorem dX7_present_69 : decode cX7_present 69 = .ok (.iload 4, 2) := by decide +kernel
theorem dX7_present_71 : decode cX7_present 71 = .ok (.iload 5, 2) := by decide +kernel
theorem dX7_present_73 : decode cX7_present 73 = .ok (.iload_n 3, 1) := by decide +kernel
theorem dX7_present_74 : decode cX7_present 74 = .ok (.isub, 1) := by decide +kernel
theorem dX7_present_75 : decode cX7_present 75 = .ok (.if_icmp .le 11, 3) := by decide +kernel
theorem dX7_present_78 : decode cX7_present 78 = .ok (.aload_n 0, 1) := by decide +kernel
theorem dX7_present_79 : decode cX7_present 79 = .ok (.iload_n 1, 1) := by decide +kernel
theorem dX7_present_80 : decode cX7_present 80 = .ok (.bipush 105, 2) := by decide +kernel
theorem dX7_present_82 : decode cX7_present 82 = .ok (.invokevirtual 121, 3) := by decide +kernel
theorem dX7_present_85 : decode cX7_present 85 = .ok (.ireturn, 1) := by decide +kernel
theorem dX7_present_86 : decode cX7_present 86 = .ok (.aload_n 0, 1) := by decide +kernel
theorem dX7_present_87 : decode cX7_present 87 = .ok (.getfield 53, 3) := by decide +kernel
theorem dX7_present_90 : decode cX7_present 90 = .ok (.iload_n 1, 1) := by decide +kernel
theorem dX7_present_91 : decode cX7_present 91 = .ok (.iload 4, 2) := by decide +kernel
theorem dX7_present_93 : decode cX7_present 93 = .ok (.iastore, 1) := by decide +kernel
theorem dX7_present_94 : decode cX7_present 94 = .ok (.iconst 0, 1) := by decide +kernel
theorem dX7_present_95 : decode cX7_present 95 = .ok (.istore 6, 2) := by decide +kernel
theorem dX7_present_97 : decode cX7_present 97 = .ok (.iconst 0, 1) := by decide +kernel
theorem dX7_present_98 : decode cX7_present 98 = .ok (.istore 7, 2) := by decide +kernel
theorem dX7_present_100 : decode cX7_present 100 = .ok (.iload 7, 2) := by decide +kernel
theorem dX7_present_102 : decode cX7_present 102 = .ok (.iload 4, 2) := by decide +kernel
theorem dX7_present_104 : decode cX7_present 104 = .ok (.if_icmp .ge 154, 3) := by decide +kernel
theorem dX7_present_107 : decode cX7_present 107 = .ok (.aload_n 0, 1) := by decide +kernel
theorem dX7_present_108 : decode cX7_present 108 = .ok (.getfield 50, 3) := by decide +kernel
theorem dX7_present_111 : decode cX7_present 111 = .ok (.bipush 100, 2) := by decide +kernel
theorem dX7_present_113 : decode cX7_present 113 = .ok (.iconst 5, 1) := by decide +kernel
theorem dX7_present_114 : decode cX7_present 114 = .ok (.iload_n 1, 1) := by decide +kernel
theorem dX7_present_115 : decode cX7_present 115 = .ok (.imul, 1) := by decide +kernel
theorem dX7_present_116 : decode cX7_present 116 = .ok (.iload_n 2, 1) := by decide +kernel
theorem dX7_present_117 : decode cX7_present 117 = .ok (.iadd, 1) := by decide +kernel
theorem dX7_present_118 : decode cX7_present 118 = .ok (.imul, 1) := by decide +kernel
theorem dX7_present_119 : decode cX7_present 119 = .ok (.iload_n 3, 1) := by decide +kernel
theorem dX7_present_120 : decode cX7_present 120 = .ok (.iadd, 1) := by decide +kernel
theorem dX7_present_121 : decode cX7_present 121 = .ok (.iload 7, 2) := by decide +kernel
theorem dX7_present_123 : decode cX7_present 123 = .ok (.iadd, 1) := by decide +kernel
theorem dX7_present_124 : decode cX7_present 124 = .ok (.iaload, 1) := by decide +kernel
theorem dX7_present_125 : decode cX7_present 125 = .ok (.istore 8, 2) := by decide +kernel
theorem dX7_present_127 : decode cX7_present 127 = .ok (.aload_n 0, 1) := by decide +kernel
theorem dX7_present_128 : decode cX7_present 128 = .ok (.getfield 56, 3) := by decide +kernel
theorem dX7_present_131 : decode cX7_present 131 = .ok (.bipush 100, 2) := by decide +kernel
theorem dX7_present_133 : decode cX7_present 133 = .ok (.iload_n 1, 1) := by decide +kernel
theorem dX7_present_134 : decode cX7_present 134 = .ok (.imul, 1) := by decide +kernel
theorem dX7_present_135 : decode cX7_present 135 = .ok (.iload 7, 2) := by decide +kernel
theorem dX7_present_137 : decode cX7_present 137 = .ok (.iadd, 1) := by decide +kernel
theorem dX7_present_138 : decode cX7_present 138 = .ok (.iload 8, 2) := by decide +kernel
theorem dX7_present_140 : decode cX7_present 140 = .ok (.iastore, 1) := by decide +kernel
theorem dX7_present_141 : decode cX7_present 141 = .ok (.bipush 100, 2) := by decide +kernel
theorem dX7_present_143 : decode cX7_present 143 = .ok (.iload_n 1, 1) := by decide +kernel
theorem dX7_present_144 : decode cX7_present 144 = .ok (.imul, 1) := by decide +kernel
theorem dX7_present_145 : decode cX7_present 145 = .ok (.iload 6, 2) := by decide +kernel
theorem dX7_present_147 : decode cX7_present 147 = .ok (.iadd, 1) := by decide +kernel
theorem dX7_present_148 : decode cX7_present 148 = .ok (.iconst 1, 1) := by decide +kernel
theorem dX7_present_149 : decode cX7_present 149 = .ok (.isub, 1) := by decide +kernel
theorem dX7_present_150 : decode cX7_present 150 = .ok (.istore 9, 2) := by decide +kernel
theorem dX7_present_152 : decode cX7_present 152 = .ok (.iload 6, 2) := by decide +kernel
theorem dX7_present_154 : decode cX7_present 154 = .ok (.ifCond .le 58, 3) := by decide +kernel
theorem dX7_present_157 : decode cX7_present 157 = .ok (.aload_n 0, 1) := by decide +kernel
theorem dX7_present_158 : decode cX7_present 158 = .ok (.getfield 68, 3) := by decide +kernel
theorem dX7_present_161 : decode cX7_present 161 = .ok (.iload 9, 2) := by decide +kernel
theorem dX7_present_163 : decode cX7_present 163 = .ok (.iaload, 1) := by decide +kernel
theorem dX7_present_164 : decode cX7_present 164 = .ok (.aload_n 0, 1) := by decide +kernel
theorem dX7_present_165 : decode cX7_present 165 = .ok (.getfield 7, 3) := by decide +kernel
theorem dX7_present_168 : decode cX7_present 168 = .ok (.iload 8, 2) := by decide +kernel
theorem dX7_present_170 : decode cX7_present 170 = .ok (.iaload, 1) := by decide +kernel
theorem dX7_present_171 : decode cX7_present 171 = .ok (.iadd, 1) := by decide +kernel
theorem dX7_present_172 : decode cX7_present 172 = .ok (.aload_n 0, 1) := by decide +kernel
theorem dX7_present_173 : decode cX7_present 173 = .ok (.getfield 35, 3) := by decide +kernel
theorem dX7_present_176 : decode cX7_present 176 = .ok (.iload_n 1, 1) := by decide +kernel
theorem dX7_present_177 : decode cX7_present 177 = .ok (.iaload, 1) := by decide +kernel
theorem dX7_present_178 : decode cX7_present 178 = .ok (.if_icmp .gt 34, 3) := by decide +kernel
theorem dX7_present_181 : decode cX7_present 181 = .ok (.aload_n 0, 1) := by decide +kernel
theorem dX7_present_182 : decode cX7_present 182 = .ok (.getfield 65, 3) := by decide +kernel
theorem dX7_present_185 : decode cX7_present 185 = .ok (.iload 9, 2) := by decide +kernel
theorem dX7_present_187 : decode cX7_present 187 = .ok (.dup2, 1) := by decide +kernel
theorem dX7_present_188 : decode cX7_present 188 = .ok (.iaload, 1) := by decide +kernel
theorem dX7_present_189 : decode cX7_present 189 = .ok (.iconst 1, 1) := by decide +kernel
theorem dX7_present_190 : decode cX7_present 190 = .ok (.iadd, 1) := by decide +kernel
theorem dX7_present_191 : decode cX7_present 191 = .ok (.iastore, 1) := by decide +kernel
theorem dX7_present_192 : decode cX7_present 192 = .ok (.aload_n 0, 1) := by decide +kernel
theorem dX7_present_193 : decode cX7_present 193 = .ok (.getfield 68, 3) := by decide +kernel
theorem dX7_present_196 : decode cX7_present 196 = .ok (.iload 9, 2) := by decide +kernel
theorem dX7_present_198 : decode cX7_present 198 = .ok (.dup2, 1) := by decide +kernel
theorem dX7_present_199 : decode cX7_present 199 = .ok (.iaload, 1) := by decide +kernel
theorem dX7_present_200 : decode cX7_present 200 = .ok (.aload_n 0, 1) := by decide +kernel
theorem dX7_present_201 : decode cX7_present 201 = .ok (.getfield 7, 3) := by decide +kernel
theorem dX7_present_204 : decode cX7_present 204 = .ok (.iload 8, 2) := by decide +kernel
theorem dX7_present_206 : decode cX7_present 206 = .ok (.iaload, 1) := by decide +kernel
theorem dX7_present_207 : decode cX7_present 207 = .ok (.iadd, 1) := by decide +kernel
theorem dX7_present_208 : decode cX7_present 208 = .ok (.iastore, 1) := by decide +kernel
theorem dX7_present_209 : decode cX7_present 209 = .ok (.goto 43, 3) := by decide +kernel
theorem dX7_present_212 : decode cX7_present 212 = .ok (.aload_n 0, 1) := by decide +kernel
theorem dX7_present_213 : decode cX7_present 213 = .ok (.getfield 62, 3) := by decide +kernel
theorem dX7_present_216 : decode cX7_present 216 = .ok (.iload 9, 2) := by decide +kernel
theorem dX7_present_218 : decode cX7_present 218 = .ok (.iconst 1, 1) := by decide +kernel
theorem dX7_present_219 : decode cX7_present 219 = .ok (.iadd, 1) := by decide +kernel
theorem dX7_present_220 : decode cX7_present 220 = .ok (.iload 7, 2) := by decide +kernel
theorem dX7_present_222 : decode cX7_present 222 = .ok (.iastore, 1) := by decide +kernel
theorem dX7_present_223 : decode cX7_present 223 = .ok (.aload_n 0, 1) := by decide +kernel
theorem dX7_present_224 : decode cX7_present 224 = .ok (.getfield 65, 3) := by decide +kernel
theorem dX7_present_227 : decode cX7_present 227 = .ok (.iload 9, 2) := by decide +kernel
theorem dX7_present_229 : decode cX7_present 229 = .ok (.iconst 1, 1) := by decide +kernel
theorem dX7_present_230 : decode cX7_present 230 = .ok (.iadd, 1) := by decide +kernel
theorem dX7_present_231 : decode cX7_present 231 = .ok (.iconst 1, 1) := by decide +kernel
theorem dX7_present_232 : decode cX7_present 232 = .ok (.iastore, 1) := by decide +kernel
theorem dX7_present_233 : decode cX7_present 233 = .ok (.aload_n 0, 1) := by decide +kernel
theorem dX7_present_234 : decode cX7_present 234 = .ok (.getfield 68, 3) := by decide +kernel
theorem dX7_present_237 : decode cX7_present 237 = .ok (.iload 9, 2) := by decide +kernel
theorem dX7_present_239 : decode cX7_present 239 = .ok (.iconst 1, 1) := by decide +kernel
theorem dX7_present_240 : decode cX7_present 240 = .ok (.iadd, 1) := by decide +kernel
theorem dX7_present_241 : decode cX7_present 241 = .ok (.aload_n 0, 1) := by decide +kernel
theorem dX7_present_242 : decode cX7_present 242 = .ok (.getfield 7, 3) := by decide +kernel
theorem dX7_present_245 : decode cX7_present 245 = .ok (.iload 8, 2) := by decide +kernel
theorem dX7_present_247 : decode cX7_present 247 = .ok (.iaload, 1) := by decide +kernel
theorem dX7_present_248 : decode cX7_present 248 = .ok (.iastore, 1) := by decide +kernel
theorem dX7_present_249 : decode cX7_present 249 = .ok (.iinc 6 1, 3) := by decide +kernel
theorem dX7_present_252 : decode cX7_present 252 = .ok (.iinc 7 1, 3) := by decide +kernel
theorem dX7_present_255 : decode cX7_present 255 = .ok (.goto (-155), 3) := by decide +kernel
theorem dX7_present_258 : decode cX7_present 258 = .ok (.aload_n 0, 1) := by decide +kernel
theorem dX7_present_259 : decode cX7_present 259 = .ok (.getfield 59, 3) := by decide +kernel
theorem dX7_present_262 : decode cX7_present 262 = .ok (.iload_n 1, 1) := by decide +kernel
theorem dX7_present_263 : decode cX7_present 263 = .ok (.iload 6, 2) := by decide +kernel
theorem dX7_present_265 : decode cX7_present 265 = .ok (.iastore, 1) := by decide +kernel
theorem dX7_present_266 : decode cX7_present 266 = .ok (.iload 6, 2) := by decide +kernel
theorem dX7_present_268 : decode cX7_present 268 = .ok (.ireturn, 1) := by decide +kernel
theorem dX7_segment_0 : decode cX7_segment 0 = .ok (.aload_n 0, 1) := by decide +kernel
theorem dX7_segment_1 : decode cX7_segment 1 = .ok (.iconst 0, 1) := by decide +kernel
theorem dX7_segment_2 : decode cX7_segment 2 = .ok (.putfield 83, 3) := by decide +kernel
theorem dX7_segment_5 : decode cX7_segment 5 = .ok (.iload_n 1, 1) := by decide +kernel
theorem dX7_segment_6 : decode cX7_segment 6 = .ok (.iconst 0, 1) := by decide +kernel
theorem dX7_segment_7 : decode cX7_segment 7 = .ok (.aload_n 0, 1) := by decide +kernel
theorem dX7_segment_8 : decode cX7_segment 8 = .ok (.getfield 107, 3) := by decide +kernel
theorem dX7_segment_11 : decode cX7_segment 11 = .ok (.iconst 1, 1) := by decide +kernel
theorem dX7_segment_12 : decode cX7_segment 12 = .ok (.isub, 1) := by decide +kernel
theorem dX7_segment_13 : decode cX7_segment 13 = .ok (.invokestatic 87, 3) := by decide +kernel
theorem dX7_segment_16 : decode cX7_segment 16 = .ok (.ifCond .eq 19, 3) := by decide +kernel
theorem dX7_segment_19 : decode cX7_segment 19 = .ok (.iload_n 2, 1) := by decide +kernel
theorem dX7_segment_20 : decode cX7_segment 20 = .ok (.iconst 0, 1) := by decide +kernel
theorem dX7_segment_21 : decode cX7_segment 21 = .ok (.aload_n 0, 1) := by decide +kernel
theorem dX7_segment_22 : decode cX7_segment 22 = .ok (.getfield 59, 3) := by decide +kernel
theorem dX7_segment_25 : decode cX7_segment 25 = .ok (.iload_n 1, 1) := by decide +kernel
theorem dX7_segment_26 : decode cX7_segment 26 = .ok (.iaload, 1) := by decide +kernel
theorem dX7_segment_27 : decode cX7_segment 27 = .ok (.iconst 1, 1) := by decide +kernel
theorem dX7_segment_28 : decode cX7_segment 28 = .ok (.isub, 1) := by decide +kernel
theorem dX7_segment_29 : decode cX7_segment 29 = .ok (.invokestatic 87, 3) := by decide +kernel
theorem dX7_segment_32 : decode cX7_segment 32 = .ok (.ifCond .ne 5, 3) := by decide +kernel
theorem dX7_segment_35 : decode cX7_segment 35 = .ok (.iconst (-1), 1) := by decide +kernel
theorem dX7_segment_36 : decode cX7_segment 36 = .ok (.ireturn, 1) := by decide +kernel
theorem dX7_segment_37 : decode cX7_segment 37 = .ok (.bipush 100, 2) := by decide +kernel
theorem dX7_segment_39 : decode cX7_segment 39 = .ok (.iload_n 1, 1) := by decide +kernel
theorem dX7_segment_40 : decode cX7_segment 40 = .ok (.imul, 1) := by decide +kernel
theorem dX7_segment_41 : decode cX7_segment 41 = .ok (.iload_n 2, 1) := by decide +kernel
theorem dX7_segment_42 : decode cX7_segment 42 = .ok (.iadd, 1) := by decide +kernel
theorem dX7_segment_43 : decode cX7_segment 43 = .ok (.istore 4, 2) := by decide +kernel
theorem dX7_segment_45 : decode cX7_segment 45 = .ok (.iload_n 3, 1) := by decide +kernel
theorem dX7_segment_46 : decode cX7_segment 46 = .ok (.tableswitch 76 0 3 #[30, 38, 46, 54], 30) := by decide +kernel
theorem dX7_segment_76 : decode cX7_segment 76 = .ok (.aload_n 0, 1) := by decide +kernel
theorem dX7_segment_77 : decode cX7_segment 77 = .ok (.getfield 62, 3) := by decide +kernel
theorem dX7_segment_80 : decode cX7_segment 80 = .ok (.iload 4, 2) := by decide +kernel
theorem dX7_segment_82 : decode cX7_segment 82 = .ok (.iaload, 1) := by decide +kernel
theorem dX7_segment_83 : decode cX7_segment 83 = .ok (.ireturn, 1) := by decide +kernel
theorem dX7_segment_84 : decode cX7_segment 84 = .ok (.aload_n 0, 1) := by decide +kernel
theorem dX7_segment_85 : decode cX7_segment 85 = .ok (.getfield 65, 3) := by decide +kernel
theorem dX7_segment_88 : decode cX7_segment 88 = .ok (.iload 4, 2) := by decide +kernel
theorem dX7_segment_90 : decode cX7_segment 90 = .ok (.iaload, 1) := by decide +kernel
theorem dX7_segment_91 : decode cX7_segment 91 = .ok (.ireturn, 1) := by decide +kernel
theorem dX7_segment_92 : decode cX7_segment 92 = .ok (.aload_n 0, 1) := by decide +kernel
theorem dX7_segment_93 : decode cX7_segment 93 = .ok (.getfield 68, 3) := by decide +kernel
theorem dX7_segment_96 : decode cX7_segment 96 = .ok (.iload 4, 2) := by decide +kernel
theorem dX7_segment_98 : decode cX7_segment 98 = .ok (.iaload, 1) := by decide +kernel
theorem dX7_segment_99 : decode cX7_segment 99 = .ok (.ireturn, 1) := by decide +kernel
theorem dX7_segment_100 : decode cX7_segment 100 = .ok (.aload_n 0, 1) := by decide +kernel
theorem dX7_segment_101 : decode cX7_segment 101 = .ok (.getfield 68, 3) := by decide +kernel
theorem dX7_segment_104 : decode cX7_segment 104 = .ok (.iload 4, 2) := by decide +kernel
theorem dX7_segment_106 : decode cX7_segment 106 = .ok (.iaload, 1) := by decide +kernel
theorem dX7_segment_107 : decode cX7_segment 107 = .ok (.aload_n 0, 1) := by decide +kernel
theorem dX7_segment_108 : decode cX7_segment 108 = .ok (.getfield 35, 3) := by decide +kernel
theorem dX7_segment_111 : decode cX7_segment 111 = .ok (.iload_n 1, 1) := by decide +kernel
theorem dX7_segment_112 : decode cX7_segment 112 = .ok (.iaload, 1) := by decide +kernel
theorem dX7_segment_113 : decode cX7_segment 113 = .ok (.if_icmp .le 7, 3) := by decide +kernel
theorem dX7_segment_116 : decode cX7_segment 116 = .ok (.iconst 1, 1) := by decide +kernel
theorem dX7_segment_117 : decode cX7_segment 117 = .ok (.goto 4, 3) := by decide +kernel
theorem dX7_segment_120 : decode cX7_segment 120 = .ok (.iconst 0, 1) := by decide +kernel
theorem dX7_segment_121 : decode cX7_segment 121 = .ok (.ireturn, 1) := by decide +kernel
theorem dX7_segment_122 : decode cX7_segment 122 = .ok (.iconst (-1), 1) := by decide +kernel
theorem dX7_segment_123 : decode cX7_segment 123 = .ok (.ireturn, 1) := by decide +kernel
theorem dX7_at_0 : decode cX7_at 0 = .ok (.aload_n 0, 1) := by decide +kernel
theorem dX7_at_1 : decode cX7_at 1 = .ok (.iconst 0, 1) := by decide +kernel
theorem dX7_at_2 : decode cX7_at 2 = .ok (.putfield 83, 3) := by decide +kernel
theorem dX7_at_5 : decode cX7_at 5 = .ok (.iload_n 1, 1) := by decide +kernel
theorem dX7_at_6 : decode cX7_at 6 = .ok (.iconst 0, 1) := by decide +kernel
theorem dX7_at_7 : decode cX7_at 7 = .ok (.aload_n 0, 1) := by decide +kernel
theorem dX7_at_8 : decode cX7_at 8 = .ok (.getfield 107, 3) := by decide +kernel
theorem dX7_at_11 : decode cX7_at 11 = .ok (.iconst 1, 1) := by decide +kernel
theorem dX7_at_12 : decode cX7_at 12 = .ok (.isub, 1) := by decide +kernel
theorem dX7_at_13 : decode cX7_at 13 = .ok (.invokestatic 87, 3) := by decide +kernel
theorem dX7_at_16 : decode cX7_at 16 = .ok (.ifCond .eq 33, 3) := by decide +kernel
theorem dX7_at_19 : decode cX7_at 19 = .ok (.iload_n 2, 1) := by decide +kernel
theorem dX7_at_20 : decode cX7_at 20 = .ok (.iconst 0, 1) := by decide +kernel
theorem dX7_at_21 : decode cX7_at 21 = .ok (.aload_n 0, 1) := by decide +kernel
theorem dX7_at_22 : decode cX7_at 22 = .ok (.getfield 53, 3) := by decide +kernel
theorem dX7_at_25 : decode cX7_at 25 = .ok (.iload_n 1, 1) := by decide +kernel
theorem dX7_at_26 : decode cX7_at 26 = .ok (.iaload, 1) := by decide +kernel
theorem dX7_at_27 : decode cX7_at 27 = .ok (.iconst 1, 1) := by decide +kernel
theorem dX7_at_28 : decode cX7_at 28 = .ok (.isub, 1) := by decide +kernel
theorem dX7_at_29 : decode cX7_at 29 = .ok (.invokestatic 87, 3) := by decide +kernel
theorem dX7_at_32 : decode cX7_at 32 = .ok (.ifCond .eq 17, 3) := by decide +kernel
theorem dX7_at_35 : decode cX7_at 35 = .ok (.aload_n 0, 1) := by decide +kernel
theorem dX7_at_36 : decode cX7_at 36 = .ok (.getfield 56, 3) := by decide +kernel
theorem dX7_at_39 : decode cX7_at 39 = .ok (.bipush 100, 2) := by decide +kernel
theorem dX7_at_41 : decode cX7_at 41 = .ok (.iload_n 1, 1) := by decide +kernel
theorem dX7_at_42 : decode cX7_at 42 = .ok (.imul, 1) := by decide +kernel
theorem dX7_at_43 : decode cX7_at 43 = .ok (.iload_n 2, 1) := by decide +kernel
theorem dX7_at_44 : decode cX7_at 44 = .ok (.iadd, 1) := by decide +kernel
theorem dX7_at_45 : decode cX7_at 45 = .ok (.iaload, 1) := by decide +kernel
theorem dX7_at_46 : decode cX7_at 46 = .ok (.goto 4, 3) := by decide +kernel
theorem dX7_at_49 : decode cX7_at 49 = .ok (.iconst (-1), 1) := by decide +kernel
theorem dX7_at_50 : decode cX7_at 50 = .ok (.ireturn, 1) := by decide +kernel
theorem dX7_isBehind_0 : decode cX7_isBehind 0 = .ok (.aload_n 0, 1) := by decide +kernel
theorem dX7_isBehind_1 : decode cX7_isBehind 1 = .ok (.getfield 13, 3) := by decide +kernel
theorem dX7_isBehind_4 : decode cX7_isBehind 4 = .ok (.iconst 5, 1) := by decide +kernel
theorem dX7_isBehind_5 : decode cX7_isBehind 5 = .ok (.iload_n 1, 1) := by decide +kernel
theorem dX7_isBehind_6 : decode cX7_isBehind 6 = .ok (.imul, 1) := by decide +kernel
theorem dX7_isBehind_7 : decode cX7_isBehind 7 = .ok (.iload_n 3, 1) := by decide +kernel
theorem dX7_isBehind_8 : decode cX7_isBehind 8 = .ok (.iadd, 1) := by decide +kernel
theorem dX7_isBehind_9 : decode cX7_isBehind 9 = .ok (.iaload, 1) := by decide +kernel
theorem dX7_isBehind_10 : decode cX7_isBehind 10 = .ok (.istore 5, 2) := by decide +kernel
theorem dX7_isBehind_12 : decode cX7_isBehind 12 = .ok (.aload_n 0, 1) := by decide +kernel
theorem dX7_isBehind_13 : decode cX7_isBehind 13 = .ok (.getfield 13, 3) := by decide +kernel
theorem dX7_isBehind_16 : decode cX7_isBehind 16 = .ok (.iconst 5, 1) := by decide +kernel
theorem dX7_isBehind_17 : decode cX7_isBehind 17 = .ok (.iload_n 2, 1) := by decide +kernel
theorem dX7_isBehind_18 : decode cX7_isBehind 18 = .ok (.imul, 1) := by decide +kernel
theorem dX7_isBehind_19 : decode cX7_isBehind 19 = .ok (.iload_n 3, 1) := by decide +kernel
theorem dX7_isBehind_20 : decode cX7_isBehind 20 = .ok (.iadd, 1) := by decide +kernel
theorem dX7_isBehind_21 : decode cX7_isBehind 21 = .ok (.iaload, 1) := by decide +kernel
theorem dX7_isBehind_22 : decode cX7_isBehind 22 = .ok (.istore 6, 2) := by decide +kernel
theorem dX7_isBehind_24 : decode cX7_isBehind 24 = .ok (.iload 5, 2) := by decide +kernel
theorem dX7_isBehind_26 : decode cX7_isBehind 26 = .ok (.ifCond .ge 5, 3) := by decide +kernel
theorem dX7_isBehind_29 : decode cX7_isBehind 29 = .ok (.iconst 1, 1) := by decide +kernel
theorem dX7_isBehind_30 : decode cX7_isBehind 30 = .ok (.ireturn, 1) := by decide +kernel
theorem dX7_isBehind_31 : decode cX7_isBehind 31 = .ok (.iload 6, 2) := by decide +kernel
theorem dX7_isBehind_33 : decode cX7_isBehind 33 = .ok (.ifCond .lt 29, 3) := by decide +kernel
theorem dX7_isBehind_36 : decode cX7_isBehind 36 = .ok (.iload 4, 2) := by decide +kernel
theorem dX7_isBehind_38 : decode cX7_isBehind 38 = .ok (.ifCond .eq 13, 3) := by decide +kernel
theorem dX7_isBehind_41 : decode cX7_isBehind 41 = .ok (.iload 5, 2) := by decide +kernel
theorem dX7_isBehind_43 : decode cX7_isBehind 43 = .ok (.iload 6, 2) := by decide +kernel
theorem dX7_isBehind_45 : decode cX7_isBehind 45 = .ok (.if_icmp .gt 17, 3) := by decide +kernel
theorem dX7_isBehind_48 : decode cX7_isBehind 48 = .ok (.goto 10, 3) := by decide +kernel
theorem dX7_isBehind_51 : decode cX7_isBehind 51 = .ok (.iload 5, 2) := by decide +kernel
theorem dX7_isBehind_53 : decode cX7_isBehind 53 = .ok (.iload 6, 2) := by decide +kernel
theorem dX7_isBehind_55 : decode cX7_isBehind 55 = .ok (.if_icmp .lt 7, 3) := by decide +kernel
theorem dX7_isBehind_58 : decode cX7_isBehind 58 = .ok (.iconst 1, 1) := by decide +kernel
theorem dX7_isBehind_59 : decode cX7_isBehind 59 = .ok (.goto 4, 3) := by decide +kernel
theorem dX7_isBehind_62 : decode cX7_isBehind 62 = .ok (.iconst 0, 1) := by decide +kernel
theorem dX7_isBehind_63 : decode cX7_isBehind 63 = .ok (.ireturn, 1) := by decide +kernel
theorem dX7_sort_0 : decode cX7_sort 0 = .ok (.aload_n 0, 1) := by decide +kernel
theorem dX7_sort_1 : decode cX7_sort 1 = .ok (.iconst 0, 1) := by decide +kernel
theorem dX7_sort_2 : decode cX7_sort 2 = .ok (.putfield 83, 3) := by decide +kernel
theorem dX7_sort_5 : decode cX7_sort 5 = .ok (.aload_n 0, 1) := by decide +kernel
theorem dX7_sort_6 : decode cX7_sort 6 = .ok (.iload_n 1, 1) := by decide +kernel
theorem dX7_sort_7 : decode cX7_sort 7 = .ok (.invokevirtual 118, 3) := by decide +kernel
theorem dX7_sort_10 : decode cX7_sort 10 = .ok (.ifCond .ne 6, 3) := by decide +kernel
theorem dX7_sort_13 : decode cX7_sort 13 = .ok (.bipush (-101), 2) := by decide +kernel
theorem dX7_sort_15 : decode cX7_sort 15 = .ok (.ireturn, 1) := by decide +kernel
theorem dX7_sort_16 : decode cX7_sort 16 = .ok (.aload_n 0, 1) := by decide +kernel
theorem dX7_sort_17 : decode cX7_sort 17 = .ok (.getfield 32, 3) := by decide +kernel
theorem dX7_sort_20 : decode cX7_sort 20 = .ok (.iload_n 1, 1) := by decide +kernel
theorem dX7_sort_21 : decode cX7_sort 21 = .ok (.iaload, 1) := by decide +kernel
theorem dX7_sort_22 : decode cX7_sort 22 = .ok (.iconst 1, 1) := by decide +kernel
theorem dX7_sort_23 : decode cX7_sort 23 = .ok (.iand, 1) := by decide +kernel
theorem dX7_sort_24 : decode cX7_sort 24 = .ok (.ifCond .ne 11, 3) := by decide +kernel
theorem dX7_sort_27 : decode cX7_sort 27 = .ok (.aload_n 0, 1) := by decide +kernel
theorem dX7_sort_28 : decode cX7_sort 28 = .ok (.iload_n 1, 1) := by decide +kernel
theorem dX7_sort_29 : decode cX7_sort 29 = .ok (.bipush 102, 2) := by decide +kernel
theorem dX7_sort_31 : decode cX7_sort 31 = .ok (.invokevirtual 121, 3) := by decide +kernel
theorem dX7_sort_34 : decode cX7_sort 34 = .ok (.ireturn, 1) := by decide +kernel
theorem dX7_sort_35 : decode cX7_sort 35 = .ok (.aload_n 0, 1) := by decide +kernel
theorem dX7_sort_36 : decode cX7_sort 36 = .ok (.iload_n 1, 1) := by decide +kernel
theorem dX7_sort_37 : decode cX7_sort 37 = .ok (.iload_n 2, 1) := by decide +kernel
theorem dX7_sort_38 : decode cX7_sort 38 = .ok (.invokevirtual 128, 3) := by decide +kernel
theorem dX7_sort_41 : decode cX7_sort 41 = .ok (.ifCond .ne 11, 3) := by decide +kernel
theorem dX7_sort_44 : decode cX7_sort 44 = .ok (.aload_n 0, 1) := by decide +kernel
theorem dX7_sort_45 : decode cX7_sort 45 = .ok (.iload_n 1, 1) := by decide +kernel
theorem dX7_sort_46 : decode cX7_sort 46 = .ok (.bipush 104, 2) := by decide +kernel
theorem dX7_sort_48 : decode cX7_sort 48 = .ok (.invokevirtual 121, 3) := by decide +kernel
theorem dX7_sort_51 : decode cX7_sort 51 = .ok (.ireturn, 1) := by decide +kernel
theorem dX7_sort_52 : decode cX7_sort 52 = .ok (.iload_n 3, 1) := by decide +kernel
theorem dX7_sort_53 : decode cX7_sort 53 = .ok (.invokestatic 94, 3) := by decide +kernel
theorem dX7_sort_56 : decode cX7_sort 56 = .ok (.ifCond .ne 11, 3) := by decide +kernel
theorem dX7_sort_59 : decode cX7_sort 59 = .ok (.aload_n 0, 1) := by decide +kernel
theorem dX7_sort_60 : decode cX7_sort 60 = .ok (.iload_n 1, 1) := by decide +kernel
theorem dX7_sort_61 : decode cX7_sort 61 = .ok (.bipush 106, 2) := by decide +kernel
theorem dX7_sort_63 : decode cX7_sort 63 = .ok (.invokevirtual 121, 3) := by decide +kernel
theorem dX7_sort_66 : decode cX7_sort 66 = .ok (.ireturn, 1) := by decide +kernel
theorem dX7_sort_67 : decode cX7_sort 67 = .ok (.bipush 100, 2) := by decide +kernel
theorem dX7_sort_69 : decode cX7_sort 69 = .ok (.iconst 5, 1) := by decide +kernel
theorem dX7_sort_70 : decode cX7_sort 70 = .ok (.iload_n 1, 1) := by decide +kernel
theorem dX7_sort_71 : decode cX7_sort 71 = .ok (.imul, 1) := by decide +kernel
theorem dX7_sort_72 : decode cX7_sort 72 = .ok (.iload_n 2, 1) := by decide +kernel
theorem dX7_sort_73 : decode cX7_sort 73 = .ok (.iadd, 1) := by decide +kernel
theorem dX7_sort_74 : decode cX7_sort 74 = .ok (.imul, 1) := by decide +kernel
theorem dX7_sort_75 : decode cX7_sort 75 = .ok (.istore 5, 2) := by decide +kernel
theorem dX7_sort_77 : decode cX7_sort 77 = .ok (.iconst 0, 1) := by decide +kernel
theorem dX7_sort_78 : decode cX7_sort 78 = .ok (.istore 6, 2) := by decide +kernel
theorem dX7_sort_80 : decode cX7_sort 80 = .ok (.iconst 0, 1) := by decide +kernel
theorem dX7_sort_81 : decode cX7_sort 81 = .ok (.istore 7, 2) := by decide +kernel
theorem dX7_sort_83 : decode cX7_sort 83 = .ok (.iload 7, 2) := by decide +kernel
theorem dX7_sort_85 : decode cX7_sort 85 = .ok (.aload_n 0, 1) := by decide +kernel
theorem dX7_sort_86 : decode cX7_sort 86 = .ok (.getfield 47, 3) := by decide +kernel
theorem dX7_sort_89 : decode cX7_sort 89 = .ok (.iconst 5, 1) := by decide +kernel
theorem dX7_sort_90 : decode cX7_sort 90 = .ok (.iload_n 1, 1) := by decide +kernel
theorem dX7_sort_91 : decode cX7_sort 91 = .ok (.imul, 1) := by decide +kernel
theorem dX7_sort_92 : decode cX7_sort 92 = .ok (.iload_n 2, 1) := by decide +kernel
theorem dX7_sort_93 : decode cX7_sort 93 = .ok (.iadd, 1) := by decide +kernel
theorem dX7_sort_94 : decode cX7_sort 94 = .ok (.iaload, 1) := by decide +kernel
theorem dX7_sort_95 : decode cX7_sort 95 = .ok (.if_icmp .ge 118, 3) := by decide +kernel
theorem dX7_sort_98 : decode cX7_sort 98 = .ok (.aload_n 0, 1) := by decide +kernel
theorem dX7_sort_99 : decode cX7_sort 99 = .ok (.getfield 50, 3) := by decide +kernel
theorem dX7_sort_102 : decode cX7_sort 102 = .ok (.iload 5, 2) := by decide +kernel
theorem dX7_sort_104 : decode cX7_sort 104 = .ok (.iload 7, 2) := by decide +kernel
theorem dX7_sort_106 : decode cX7_sort 106 = .ok (.iadd, 1) := by decide +kernel
theorem dX7_sort_107 : decode cX7_sort 107 = .ok (.iaload, 1) := by decide +kernel
theorem dX7_sort_108 : decode cX7_sort 108 = .ok (.istore 8, 2) := by decide +kernel
theorem dX7_sort_110 : decode cX7_sort 110 = .ok (.iload 6, 2) := by decide +kernel
theorem dX7_sort_112 : decode cX7_sort 112 = .ok (.aload_n 0, 1) := by decide +kernel
theorem dX7_sort_113 : decode cX7_sort 113 = .ok (.getfield 13, 3) := by decide +kernel
theorem dX7_sort_116 : decode cX7_sort 116 = .ok (.iconst 5, 1) := by decide +kernel
theorem dX7_sort_117 : decode cX7_sort 117 = .ok (.iload 8, 2) := by decide +kernel
theorem dX7_sort_119 : decode cX7_sort 119 = .ok (.imul, 1) := by decide +kernel
theorem dX7_sort_120 : decode cX7_sort 120 = .ok (.iload_n 3, 1) := by decide +kernel
theorem dX7_sort_121 : decode cX7_sort 121 = .ok (.iadd, 1) := by decide +kernel
theorem dX7_sort_122 : decode cX7_sort 122 = .ok (.iaload, 1) := by decide +kernel
theorem dX7_sort_123 : decode cX7_sort 123 = .ok (.ifCond .ge 7, 3) := by decide +kernel
theorem dX7_sort_126 : decode cX7_sort 126 = .ok (.iconst 1, 1) := by decide +kernel
theorem dX7_sort_127 : decode cX7_sort 127 = .ok (.goto 4, 3) := by decide +kernel
theorem dX7_sort_130 : decode cX7_sort 130 = .ok (.iconst 0, 1) := by decide +kernel
theorem dX7_sort_131 : decode cX7_sort 131 = .ok (.iadd, 1) := by decide +kernel
theorem dX7_sort_132 : decode cX7_sort 132 = .ok (.istore 6, 2) := by decide +kernel
theorem dX7_sort_134 : decode cX7_sort 134 = .ok (.iload 7, 2) := by decide +kernel
theorem dX7_sort_136 : decode cX7_sort 136 = .ok (.istore 9, 2) := by decide +kernel
theorem dX7_sort_138 : decode cX7_sort 138 = .ok (.iload 9, 2) := by decide +kernel
theorem dX7_sort_140 : decode cX7_sort 140 = .ok (.ifCond .le 55, 3) := by decide +kernel
theorem dX7_sort_143 : decode cX7_sort 143 = .ok (.aload_n 0, 1) := by decide +kernel
theorem dX7_sort_144 : decode cX7_sort 144 = .ok (.iload 8, 2) := by decide +kernel
theorem dX7_sort_146 : decode cX7_sort 146 = .ok (.aload_n 0, 1) := by decide +kernel
theorem dX7_sort_147 : decode cX7_sort 147 = .ok (.getfield 50, 3) := by decide +kernel
theorem dX7_sort_150 : decode cX7_sort 150 = .ok (.iload 5, 2) := by decide +kernel
theorem dX7_sort_152 : decode cX7_sort 152 = .ok (.iload 9, 2) := by decide +kernel
theorem dX7_sort_154 : decode cX7_sort 154 = .ok (.iadd, 1) := by decide +kernel
theorem dX7_sort_155 : decode cX7_sort 155 = .ok (.iconst 1, 1) := by decide +kernel
theorem dX7_sort_156 : decode cX7_sort 156 = .ok (.isub, 1) := by decide +kernel
theorem dX7_sort_157 : decode cX7_sort 157 = .ok (.iaload, 1) := by decide +kernel
theorem dX7_sort_158 : decode cX7_sort 158 = .ok (.iload_n 3, 1) := by decide +kernel
theorem dX7_sort_159 : decode cX7_sort 159 = .ok (.iload 4, 2) := by decide +kernel
theorem dX7_sort_161 : decode cX7_sort 161 = .ok (.invokevirtual 131, 3) := by decide +kernel
theorem dX7_sort_164 : decode cX7_sort 164 = .ok (.ifCond .ne 31, 3) := by decide +kernel
theorem dX7_sort_167 : decode cX7_sort 167 = .ok (.aload_n 0, 1) := by decide +kernel
theorem dX7_sort_168 : decode cX7_sort 168 = .ok (.getfield 50, 3) := by decide +kernel
theorem dX7_sort_171 : decode cX7_sort 171 = .ok (.iload 5, 2) := by decide +kernel
theorem dX7_sort_173 : decode cX7_sort 173 = .ok (.iload 9, 2) := by decide +kernel
theorem dX7_sort_175 : decode cX7_sort 175 = .ok (.iadd, 1) := by decide +kernel
theorem dX7_sort_176 : decode cX7_sort 176 = .ok (.aload_n 0, 1) := by decide +kernel
theorem dX7_sort_177 : decode cX7_sort 177 = .ok (.getfield 50, 3) := by decide +kernel
theorem dX7_sort_180 : decode cX7_sort 180 = .ok (.iload 5, 2) := by decide +kernel
theorem dX7_sort_182 : decode cX7_sort 182 = .ok (.iload 9, 2) := by decide +kernel
theorem dX7_sort_184 : decode cX7_sort 184 = .ok (.iadd, 1) := by decide +kernel
theorem dX7_sort_185 : decode cX7_sort 185 = .ok (.iconst 1, 1) := by decide +kernel
theorem dX7_sort_186 : decode cX7_sort 186 = .ok (.isub, 1) := by decide +kernel
theorem dX7_sort_187 : decode cX7_sort 187 = .ok (.iaload, 1) := by decide +kernel
theorem dX7_sort_188 : decode cX7_sort 188 = .ok (.iastore, 1) := by decide +kernel
theorem dX7_sort_189 : decode cX7_sort 189 = .ok (.iinc 9 (-1), 3) := by decide +kernel
theorem dX7_sort_192 : decode cX7_sort 192 = .ok (.goto (-54), 3) := by decide +kernel
theorem dX7_sort_195 : decode cX7_sort 195 = .ok (.aload_n 0, 1) := by decide +kernel
theorem dX7_sort_196 : decode cX7_sort 196 = .ok (.getfield 50, 3) := by decide +kernel
theorem dX7_sort_199 : decode cX7_sort 199 = .ok (.iload 5, 2) := by decide +kernel
theorem dX7_sort_201 : decode cX7_sort 201 = .ok (.iload 9, 2) := by decide +kernel
theorem dX7_sort_203 : decode cX7_sort 203 = .ok (.iadd, 1) := by decide +kernel
theorem dX7_sort_204 : decode cX7_sort 204 = .ok (.iload 8, 2) := by decide +kernel
theorem dX7_sort_206 : decode cX7_sort 206 = .ok (.iastore, 1) := by decide +kernel
theorem dX7_sort_207 : decode cX7_sort 207 = .ok (.iinc 7 1, 3) := by decide +kernel
theorem dX7_sort_210 : decode cX7_sort 210 = .ok (.goto (-127), 3) := by decide +kernel
theorem dX7_sort_213 : decode cX7_sort 213 = .ok (.iload 6, 2) := by decide +kernel
theorem dX7_sort_215 : decode cX7_sort 215 = .ok (.ireturn, 1) := by decide +kernel
theorem dX7_reckon_0 : decode cX7_reckon 0 = .ok (.iconst 0, 1) := by decide +kernel
theorem dX7_reckon_1 : decode cX7_reckon 1 = .ok (.istore_n 2, 1) := by decide +kernel
theorem dX7_reckon_2 : decode cX7_reckon 2 = .ok (.iload_n 2, 1) := by decide +kernel
theorem dX7_reckon_3 : decode cX7_reckon 3 = .ok (.sipush 1000, 3) := by decide +kernel
theorem dX7_reckon_6 : decode cX7_reckon 6 = .ok (.if_icmp .ge 16, 3) := by decide +kernel
theorem dX7_reckon_9 : decode cX7_reckon 9 = .ok (.aload_n 0, 1) := by decide +kernel
theorem dX7_reckon_10 : decode cX7_reckon 10 = .ok (.getfield 80, 3) := by decide +kernel
theorem dX7_reckon_13 : decode cX7_reckon 13 = .ok (.iload_n 2, 1) := by decide +kernel
theorem dX7_reckon_14 : decode cX7_reckon 14 = .ok (.iconst 0, 1) := by decide +kernel
theorem dX7_reckon_15 : decode cX7_reckon 15 = .ok (.iastore, 1) := by decide +kernel
theorem dX7_reckon_16 : decode cX7_reckon 16 = .ok (.iinc 2 1, 3) := by decide +kernel
theorem dX7_reckon_19 : decode cX7_reckon 19 = .ok (.goto (-17), 3) := by decide +kernel
theorem dX7_reckon_22 : decode cX7_reckon 22 = .ok (.iconst 0, 1) := by decide +kernel
theorem dX7_reckon_23 : decode cX7_reckon 23 = .ok (.istore_n 2, 1) := by decide +kernel
theorem dX7_reckon_24 : decode cX7_reckon 24 = .ok (.iload_n 2, 1) := by decide +kernel
theorem dX7_reckon_25 : decode cX7_reckon 25 = .ok (.aload_n 0, 1) := by decide +kernel
theorem dX7_reckon_26 : decode cX7_reckon 26 = .ok (.getfield 91, 3) := by decide +kernel
theorem dX7_reckon_29 : decode cX7_reckon 29 = .ok (.if_icmp .ge 41, 3) := by decide +kernel
theorem dX7_reckon_32 : decode cX7_reckon 32 = .ok (.aload_n 0, 1) := by decide +kernel
theorem dX7_reckon_33 : decode cX7_reckon 33 = .ok (.getfield 13, 3) := by decide +kernel
theorem dX7_reckon_36 : decode cX7_reckon 36 = .ok (.iconst 5, 1) := by decide +kernel
theorem dX7_reckon_37 : decode cX7_reckon 37 = .ok (.iload_n 2, 1) := by decide +kernel
theorem dX7_reckon_38 : decode cX7_reckon 38 = .ok (.imul, 1) := by decide +kernel
theorem dX7_reckon_39 : decode cX7_reckon 39 = .ok (.iload_n 1, 1) := by decide +kernel
theorem dX7_reckon_40 : decode cX7_reckon 40 = .ok (.iadd, 1) := by decide +kernel
theorem dX7_reckon_41 : decode cX7_reckon 41 = .ok (.iaload, 1) := by decide +kernel
theorem dX7_reckon_42 : decode cX7_reckon 42 = .ok (.ifCond .lt 22, 3) := by decide +kernel
theorem dX7_reckon_45 : decode cX7_reckon 45 = .ok (.aload_n 0, 1) := by decide +kernel
theorem dX7_reckon_46 : decode cX7_reckon 46 = .ok (.getfield 80, 3) := by decide +kernel
theorem dX7_reckon_49 : decode cX7_reckon 49 = .ok (.aload_n 0, 1) := by decide +kernel
theorem dX7_reckon_50 : decode cX7_reckon 50 = .ok (.getfield 13, 3) := by decide +kernel
theorem dX7_reckon_53 : decode cX7_reckon 53 = .ok (.iconst 5, 1) := by decide +kernel
theorem dX7_reckon_54 : decode cX7_reckon 54 = .ok (.iload_n 2, 1) := by decide +kernel
theorem dX7_reckon_55 : decode cX7_reckon 55 = .ok (.imul, 1) := by decide +kernel
theorem dX7_reckon_56 : decode cX7_reckon 56 = .ok (.iload_n 1, 1) := by decide +kernel
theorem dX7_reckon_57 : decode cX7_reckon 57 = .ok (.iadd, 1) := by decide +kernel
theorem dX7_reckon_58 : decode cX7_reckon 58 = .ok (.iaload, 1) := by decide +kernel
theorem dX7_reckon_59 : decode cX7_reckon 59 = .ok (.dup2, 1) := by decide +kernel
theorem dX7_reckon_60 : decode cX7_reckon 60 = .ok (.iaload, 1) := by decide +kernel
theorem dX7_reckon_61 : decode cX7_reckon 61 = .ok (.iconst 1, 1) := by decide +kernel
theorem dX7_reckon_62 : decode cX7_reckon 62 = .ok (.iadd, 1) := by decide +kernel
theorem dX7_reckon_63 : decode cX7_reckon 63 = .ok (.iastore, 1) := by decide +kernel
theorem dX7_reckon_64 : decode cX7_reckon 64 = .ok (.iinc 2 1, 3) := by decide +kernel
theorem dX7_reckon_67 : decode cX7_reckon 67 = .ok (.goto (-43), 3) := by decide +kernel
theorem dX7_reckon_70 : decode cX7_reckon 70 = .ok (.return_, 1) := by decide +kernel
theorem dX7_scan_0 : decode cX7_scan 0 = .ok (.aload_n 0, 1) := by decide +kernel
theorem dX7_scan_1 : decode cX7_scan 1 = .ok (.iconst 0, 1) := by decide +kernel
theorem dX7_scan_2 : decode cX7_scan 2 = .ok (.putfield 83, 3) := by decide +kernel
theorem dX7_scan_5 : decode cX7_scan 5 = .ok (.aload_n 0, 1) := by decide +kernel
theorem dX7_scan_6 : decode cX7_scan 6 = .ok (.iload_n 1, 1) := by decide +kernel
theorem dX7_scan_7 : decode cX7_scan 7 = .ok (.invokevirtual 118, 3) := by decide +kernel
theorem dX7_scan_10 : decode cX7_scan 10 = .ok (.ifCond .ne 6, 3) := by decide +kernel
theorem dX7_scan_13 : decode cX7_scan 13 = .ok (.bipush (-101), 2) := by decide +kernel
theorem dX7_scan_15 : decode cX7_scan 15 = .ok (.ireturn, 1) := by decide +kernel
theorem dX7_scan_16 : decode cX7_scan 16 = .ok (.aload_n 0, 1) := by decide +kernel
theorem dX7_scan_17 : decode cX7_scan 17 = .ok (.getfield 32, 3) := by decide +kernel
theorem dX7_scan_20 : decode cX7_scan 20 = .ok (.iload_n 1, 1) := by decide +kernel
theorem dX7_scan_21 : decode cX7_scan 21 = .ok (.iaload, 1) := by decide +kernel
theorem dX7_scan_22 : decode cX7_scan 22 = .ok (.iconst 2, 1) := by decide +kernel
theorem dX7_scan_23 : decode cX7_scan 23 = .ok (.iand, 1) := by decide +kernel
theorem dX7_scan_24 : decode cX7_scan 24 = .ok (.ifCond .ne 11, 3) := by decide +kernel
theorem dX7_scan_27 : decode cX7_scan 27 = .ok (.aload_n 0, 1) := by decide +kernel
theorem dX7_scan_28 : decode cX7_scan 28 = .ok (.iload_n 1, 1) := by decide +kernel
theorem dX7_scan_29 : decode cX7_scan 29 = .ok (.bipush 102, 2) := by decide +kernel
theorem dX7_scan_31 : decode cX7_scan 31 = .ok (.invokevirtual 121, 3) := by decide +kernel
theorem dX7_scan_34 : decode cX7_scan 34 = .ok (.ireturn, 1) := by decide +kernel
theorem dX7_scan_35 : decode cX7_scan 35 = .ok (.iload_n 2, 1) := by decide +kernel
theorem dX7_scan_36 : decode cX7_scan 36 = .ok (.invokestatic 94, 3) := by decide +kernel
theorem dX7_scan_39 : decode cX7_scan 39 = .ok (.ifCond .ne 11, 3) := by decide +kernel
theorem dX7_scan_42 : decode cX7_scan 42 = .ok (.aload_n 0, 1) := by decide +kernel
theorem dX7_scan_43 : decode cX7_scan 43 = .ok (.iload_n 1, 1) := by decide +kernel
theorem dX7_scan_44 : decode cX7_scan 44 = .ok (.bipush 106, 2) := by decide +kernel
theorem dX7_scan_46 : decode cX7_scan 46 = .ok (.invokevirtual 121, 3) := by decide +kernel
theorem dX7_scan_49 : decode cX7_scan 49 = .ok (.ireturn, 1) := by decide +kernel
theorem dX7_scan_50 : decode cX7_scan 50 = .ok (.iload_n 3, 1) := by decide +kernel
theorem dX7_scan_51 : decode cX7_scan 51 = .ok (.invokestatic 101, 3) := by decide +kernel
theorem dX7_scan_54 : decode cX7_scan 54 = .ok (.ifCond .eq 25, 3) := by decide +kernel
theorem dX7_scan_57 : decode cX7_scan 57 = .ok (.iload 4, 2) := by decide +kernel
theorem dX7_scan_59 : decode cX7_scan 59 = .ok (.iconst 1, 1) := by decide +kernel
theorem dX7_scan_60 : decode cX7_scan 60 = .ok (.bipush 20, 2) := by decide +kernel
theorem dX7_scan_62 : decode cX7_scan 62 = .ok (.invokestatic 87, 3) := by decide +kernel
theorem dX7_scan_65 : decode cX7_scan 65 = .ok (.ifCond .eq 14, 3) := by decide +kernel
theorem dX7_scan_68 : decode cX7_scan 68 = .ok (.iload 5, 2) := by decide +kernel
theorem dX7_scan_70 : decode cX7_scan 70 = .ok (.iconst 0, 1) := by decide +kernel
theorem dX7_scan_71 : decode cX7_scan 71 = .ok (.bipush 9, 2) := by decide +kernel
theorem dX7_scan_73 : decode cX7_scan 73 = .ok (.invokestatic 87, 3) := by decide +kernel
theorem dX7_scan_76 : decode cX7_scan 76 = .ok (.ifCond .ne 11, 3) := by decide +kernel
theorem dX7_scan_79 : decode cX7_scan 79 = .ok (.aload_n 0, 1) := by decide +kernel
theorem dX7_scan_80 : decode cX7_scan 80 = .ok (.iload_n 1, 1) := by decide +kernel
theorem dX7_scan_81 : decode cX7_scan 81 = .ok (.bipush 107, 2) := by decide +kernel
theorem dX7_scan_83 : decode cX7_scan 83 = .ok (.invokevirtual 121, 3) := by decide +kernel
theorem dX7_scan_86 : decode cX7_scan 86 = .ok (.ireturn, 1) := by decide +kernel
theorem dX7_scan_87 : decode cX7_scan 87 = .ok (.aload_n 0, 1) := by decide +kernel
theorem dX7_scan_88 : decode cX7_scan 88 = .ok (.iload_n 2, 1) := by decide +kernel
theorem dX7_scan_89 : decode cX7_scan 89 = .ok (.invokevirtual 135, 3) := by decide +kernel
theorem dX7_scan_92 : decode cX7_scan 92 = .ok (.iconst 0, 1) := by decide +kernel
theorem dX7_scan_93 : decode cX7_scan 93 = .ok (.istore 6, 2) := by decide +kernel
theorem dX7_scan_95 : decode cX7_scan 95 = .ok (.iconst 0, 1) := by decide +kernel
theorem dX7_scan_96 : decode cX7_scan 96 = .ok (.istore 7, 2) := by decide +kernel
theorem dX7_scan_98 : decode cX7_scan 98 = .ok (.iconst 0, 1) := by decide +kernel
theorem dX7_scan_99 : decode cX7_scan 99 = .ok (.istore 8, 2) := by decide +kernel
theorem dX7_scan_101 : decode cX7_scan 101 = .ok (.iload 8, 2) := by decide +kernel
theorem dX7_scan_103 : decode cX7_scan 103 = .ok (.sipush 1000, 3) := by decide +kernel
theorem dX7_scan_106 : decode cX7_scan 106 = .ok (.if_icmp .ge 55, 3) := by decide +kernel
theorem dX7_scan_109 : decode cX7_scan 109 = .ok (.iload 6, 2) := by decide +kernel
theorem dX7_scan_111 : decode cX7_scan 111 = .ok (.aload_n 0, 1) := by decide +kernel
theorem dX7_scan_112 : decode cX7_scan 112 = .ok (.getfield 80, 3) := by decide +kernel
theorem dX7_scan_115 : decode cX7_scan 115 = .ok (.iload 8, 2) := by decide +kernel
theorem dX7_scan_117 : decode cX7_scan 117 = .ok (.iaload, 1) := by decide +kernel
theorem dX7_scan_118 : decode cX7_scan 118 = .ok (.ifCond .le 7, 3) := by decide +kernel
theorem dX7_scan_121 : decode cX7_scan 121 = .ok (.iconst 1, 1) := by decide +kernel
theorem dX7_scan_122 : decode cX7_scan 122 = .ok (.goto 4, 3) := by decide +kernel
theorem dX7_scan_125 : decode cX7_scan 125 = .ok (.iconst 0, 1) := by decide +kernel
theorem dX7_scan_126 : decode cX7_scan 126 = .ok (.iadd, 1) := by decide +kernel
theorem dX7_scan_127 : decode cX7_scan 127 = .ok (.istore 6, 2) := by decide +kernel
theorem dX7_scan_129 : decode cX7_scan 129 = .ok (.iload 7, 2) := by decide +kernel
theorem dX7_scan_131 : decode cX7_scan 131 = .ok (.aload_n 0, 1) := by decide +kernel
theorem dX7_scan_132 : decode cX7_scan 132 = .ok (.getfield 80, 3) := by decide +kernel
theorem dX7_scan_135 : decode cX7_scan 135 = .ok (.iload 8, 2) := by decide +kernel
theorem dX7_scan_137 : decode cX7_scan 137 = .ok (.iaload, 1) := by decide +kernel
theorem dX7_scan_138 : decode cX7_scan 138 = .ok (.ifCond .le 13, 3) := by decide +kernel
theorem dX7_scan_141 : decode cX7_scan 141 = .ok (.iload 8, 2) := by decide +kernel
theorem dX7_scan_143 : decode cX7_scan 143 = .ok (.iload_n 3, 1) := by decide +kernel
theorem dX7_scan_144 : decode cX7_scan 144 = .ok (.if_icmp .ge 7, 3) := by decide +kernel
theorem dX7_scan_147 : decode cX7_scan 147 = .ok (.iconst 1, 1) := by decide +kernel
theorem dX7_scan_148 : decode cX7_scan 148 = .ok (.goto 4, 3) := by decide +kernel
theorem dX7_scan_151 : decode cX7_scan 151 = .ok (.iconst 0, 1) := by decide +kernel
theorem dX7_scan_152 : decode cX7_scan 152 = .ok (.iadd, 1) := by decide +kernel
theorem dX7_scan_153 : decode cX7_scan 153 = .ok (.istore 7, 2) := by decide +kernel
theorem dX7_scan_155 : decode cX7_scan 155 = .ok (.iinc 8 1, 3) := by decide +kernel
theorem dX7_scan_158 : decode cX7_scan 158 = .ok (.goto (-57), 3) := by decide +kernel
theorem dX7_scan_161 : decode cX7_scan 161 = .ok (.iload 6, 2) := by decide +kernel
theorem dX7_scan_163 : decode cX7_scan 163 = .ok (.ifCond .ne 11, 3) := by decide +kernel
theorem dX7_scan_166 : decode cX7_scan 166 = .ok (.aload_n 0, 1) := by decide +kernel
theorem dX7_scan_167 : decode cX7_scan 167 = .ok (.iload_n 1, 1) := by decide +kernel
theorem dX7_scan_168 : decode cX7_scan 168 = .ok (.bipush 108, 2) := by decide +kernel
theorem dX7_scan_170 : decode cX7_scan 170 = .ok (.invokevirtual 121, 3) := by decide +kernel
theorem dX7_scan_173 : decode cX7_scan 173 = .ok (.ireturn, 1) := by decide +kernel
theorem dX7_scan_174 : decode cX7_scan 174 = .ok (.iload 7, 2) := by decide +kernel
theorem dX7_scan_176 : decode cX7_scan 176 = .ok (.iload 5, 2) := by decide +kernel
theorem dX7_scan_178 : decode cX7_scan 178 = .ok (.if_icmp .ge 7, 3) := by decide +kernel
theorem dX7_scan_181 : decode cX7_scan 181 = .ok (.iconst 0, 1) := by decide +kernel
theorem dX7_scan_182 : decode cX7_scan 182 = .ok (.goto 8, 3) := by decide +kernel
theorem dX7_scan_185 : decode cX7_scan 185 = .ok (.iload 7, 2) := by decide +kernel
theorem dX7_scan_187 : decode cX7_scan 187 = .ok (.iload 5, 2) := by decide +kernel
theorem dX7_scan_189 : decode cX7_scan 189 = .ok (.isub, 1) := by decide +kernel
theorem dX7_scan_190 : decode cX7_scan 190 = .ok (.istore 8, 2) := by decide +kernel
theorem dX7_scan_192 : decode cX7_scan 192 = .ok (.iconst 0, 1) := by decide +kernel
theorem dX7_scan_193 : decode cX7_scan 193 = .ok (.istore 9, 2) := by decide +kernel
theorem dX7_scan_195 : decode cX7_scan 195 = .ok (.iconst 0, 1) := by decide +kernel
theorem dX7_scan_196 : decode cX7_scan 196 = .ok (.istore 10, 2) := by decide +kernel
theorem dX7_scan_198 : decode cX7_scan 198 = .ok (.iconst 0, 1) := by decide +kernel
theorem dX7_scan_199 : decode cX7_scan 199 = .ok (.istore 11, 2) := by decide +kernel
theorem dX7_scan_201 : decode cX7_scan 201 = .ok (.iload 11, 2) := by decide +kernel
theorem dX7_scan_203 : decode cX7_scan 203 = .ok (.sipush 1000, 3) := by decide +kernel
theorem dX7_scan_206 : decode cX7_scan 206 = .ok (.if_icmp .ge 75, 3) := by decide +kernel
theorem dX7_scan_209 : decode cX7_scan 209 = .ok (.aload_n 0, 1) := by decide +kernel
theorem dX7_scan_210 : decode cX7_scan 210 = .ok (.getfield 80, 3) := by decide +kernel
theorem dX7_scan_213 : decode cX7_scan 213 = .ok (.iload 11, 2) := by decide +kernel
theorem dX7_scan_215 : decode cX7_scan 215 = .ok (.iaload, 1) := by decide +kernel
theorem dX7_scan_216 : decode cX7_scan 216 = .ok (.ifCond .ne 6, 3) := by decide +kernel
theorem dX7_scan_219 : decode cX7_scan 219 = .ok (.goto 56, 3) := by decide +kernel
theorem dX7_scan_222 : decode cX7_scan 222 = .ok (.iload 9, 2) := by decide +kernel
theorem dX7_scan_224 : decode cX7_scan 224 = .ok (.iload 8, 2) := by decide +kernel
theorem dX7_scan_226 : decode cX7_scan 226 = .ok (.if_icmp .lt 46, 3) := by decide +kernel
theorem dX7_scan_229 : decode cX7_scan 229 = .ok (.iload 10, 2) := by decide +kernel
theorem dX7_scan_231 : decode cX7_scan 231 = .ok (.iload 4, 2) := by decide +kernel
theorem dX7_scan_233 : decode cX7_scan 233 = .ok (.if_icmp .ge 39, 3) := by decide +kernel
theorem dX7_scan_236 : decode cX7_scan 236 = .ok (.aload_n 0, 1) := by decide +kernel
theorem dX7_scan_237 : decode cX7_scan 237 = .ok (.getfield 74, 3) := by decide +kernel
theorem dX7_scan_240 : decode cX7_scan 240 = .ok (.bipush 20, 2) := by decide +kernel
theorem dX7_scan_242 : decode cX7_scan 242 = .ok (.iload_n 1, 1) := by decide +kernel
theorem dX7_scan_243 : decode cX7_scan 243 = .ok (.imul, 1) := by decide +kernel
theorem dX7_scan_244 : decode cX7_scan 244 = .ok (.iload 10, 2) := by decide +kernel
theorem dX7_scan_246 : decode cX7_scan 246 = .ok (.iadd, 1) := by decide +kernel
theorem dX7_scan_247 : decode cX7_scan 247 = .ok (.iload 11, 2) := by decide +kernel
theorem dX7_scan_249 : decode cX7_scan 249 = .ok (.iastore, 1) := by decide +kernel
theorem dX7_scan_250 : decode cX7_scan 250 = .ok (.aload_n 0, 1) := by decide +kernel
theorem dX7_scan_251 : decode cX7_scan 251 = .ok (.getfield 77, 3) := by decide +kernel
theorem dX7_scan_254 : decode cX7_scan 254 = .ok (.bipush 20, 2) := by decide +kernel
theorem dX7_scan_256 : decode cX7_scan 256 = .ok (.iload_n 1, 1) := by decide +kernel
theorem dX7_scan_257 : decode cX7_scan 257 = .ok (.imul, 1) := by decide +kernel
theorem dX7_scan_258 : decode cX7_scan 258 = .ok (.iload 10, 2) := by decide +kernel
theorem dX7_scan_260 : decode cX7_scan 260 = .ok (.iadd, 1) := by decide +kernel
theorem dX7_scan_261 : decode cX7_scan 261 = .ok (.aload_n 0, 1) := by decide +kernel
theorem dX7_scan_262 : decode cX7_scan 262 = .ok (.getfield 80, 3) := by decide +kernel
theorem dX7_scan_265 : decode cX7_scan 265 = .ok (.iload 11, 2) := by decide +kernel
theorem dX7_scan_267 : decode cX7_scan 267 = .ok (.iaload, 1) := by decide +kernel
theorem dX7_scan_268 : decode cX7_scan 268 = .ok (.iastore, 1) := by decide +kernel
theorem dX7_scan_269 : decode cX7_scan 269 = .ok (.iinc 10 1, 3) := by decide +kernel
theorem dX7_scan_272 : decode cX7_scan 272 = .ok (.iinc 9 1, 3) := by decide +kernel
theorem dX7_scan_275 : decode cX7_scan 275 = .ok (.iinc 11 1, 3) := by decide +kernel
theorem dX7_scan_278 : decode cX7_scan 278 = .ok (.goto (-77), 3) := by decide +kernel
theorem dX7_scan_281 : decode cX7_scan 281 = .ok (.aload_n 0, 1) := by decide +kernel
theorem dX7_scan_282 : decode cX7_scan 282 = .ok (.getfield 71, 3) := by decide +kernel
theorem dX7_scan_285 : decode cX7_scan 285 = .ok (.iload_n 1, 1) := by decide +kernel
theorem dX7_scan_286 : decode cX7_scan 286 = .ok (.iload 10, 2) := by decide +kernel
theorem dX7_scan_288 : decode cX7_scan 288 = .ok (.iastore, 1) := by decide +kernel
theorem dX7_scan_289 : decode cX7_scan 289 = .ok (.iload 10, 2) := by decide +kernel
theorem dX7_scan_291 : decode cX7_scan 291 = .ok (.ireturn, 1) := by decide +kernel
theorem dX7_scanned_0 : decode cX7_scanned 0 = .ok (.aload_n 0, 1) := by decide +kernel
theorem dX7_scanned_1 : decode cX7_scanned 1 = .ok (.iload_n 1, 1) := by decide +kernel
theorem dX7_scanned_2 : decode cX7_scanned 2 = .ok (.iconst 0, 1) := by decide +kernel
theorem dX7_scanned_3 : decode cX7_scanned 3 = .ok (.aload_n 0, 1) := by decide +kernel
theorem dX7_scanned_4 : decode cX7_scanned 4 = .ok (.getfield 107, 3) := by decide +kernel
theorem dX7_scanned_7 : decode cX7_scanned 7 = .ok (.iconst 1, 1) := by decide +kernel
theorem dX7_scanned_8 : decode cX7_scanned 8 = .ok (.isub, 1) := by decide +kernel
theorem dX7_scanned_9 : decode cX7_scanned 9 = .ok (.invokestatic 87, 3) := by decide +kernel
theorem dX7_scanned_12 : decode cX7_scanned 12 = .ok (.ifCond .eq 23, 3) := by decide +kernel
theorem dX7_scanned_15 : decode cX7_scanned 15 = .ok (.iload_n 2, 1) := by decide +kernel
theorem dX7_scanned_16 : decode cX7_scanned 16 = .ok (.iconst 0, 1) := by decide +kernel
theorem dX7_scanned_17 : decode cX7_scanned 17 = .ok (.aload_n 0, 1) := by decide +kernel
theorem dX7_scanned_18 : decode cX7_scanned 18 = .ok (.getfield 71, 3) := by decide +kernel
theorem dX7_scanned_21 : decode cX7_scanned 21 = .ok (.iload_n 1, 1) := by decide +kernel
theorem dX7_scanned_22 : decode cX7_scanned 22 = .ok (.iaload, 1) := by decide +kernel
theorem dX7_scanned_23 : decode cX7_scanned 23 = .ok (.iconst 1, 1) := by decide +kernel
theorem dX7_scanned_24 : decode cX7_scanned 24 = .ok (.isub, 1) := by decide +kernel
theorem dX7_scanned_25 : decode cX7_scanned 25 = .ok (.invokestatic 87, 3) := by decide +kernel
theorem dX7_scanned_28 : decode cX7_scanned 28 = .ok (.ifCond .eq 7, 3) := by decide +kernel
theorem dX7_scanned_31 : decode cX7_scanned 31 = .ok (.iconst 0, 1) := by decide +kernel
theorem dX7_scanned_32 : decode cX7_scanned 32 = .ok (.goto 4, 3) := by decide +kernel
theorem dX7_scanned_35 : decode cX7_scanned 35 = .ok (.iconst 1, 1) := by decide +kernel
theorem dX7_scanned_36 : decode cX7_scanned 36 = .ok (.putfield 83, 3) := by decide +kernel
theorem dX7_scanned_39 : decode cX7_scanned 39 = .ok (.aload_n 0, 1) := by decide +kernel
theorem dX7_scanned_40 : decode cX7_scanned 40 = .ok (.getfield 83, 3) := by decide +kernel
theorem dX7_scanned_43 : decode cX7_scanned 43 = .ok (.ifCond .le 5, 3) := by decide +kernel
theorem dX7_scanned_46 : decode cX7_scanned 46 = .ok (.iconst 0, 1) := by decide +kernel
theorem dX7_scanned_47 : decode cX7_scanned 47 = .ok (.ireturn, 1) := by decide +kernel
theorem dX7_scanned_48 : decode cX7_scanned 48 = .ok (.iload_n 3, 1) := by decide +kernel
theorem dX7_scanned_49 : decode cX7_scanned 49 = .ok (.ifCond .ne 17, 3) := by decide +kernel
theorem dX7_scanned_52 : decode cX7_scanned 52 = .ok (.aload_n 0, 1) := by decide +kernel
theorem dX7_scanned_53 : decode cX7_scanned 53 = .ok (.getfield 74, 3) := by decide +kernel
theorem dX7_scanned_56 : decode cX7_scanned 56 = .ok (.bipush 20, 2) := by decide +kernel
theorem dX7_scanned_58 : decode cX7_scanned 58 = .ok (.iload_n 1, 1) := by decide +kernel
theorem dX7_scanned_59 : decode cX7_scanned 59 = .ok (.imul, 1) := by decide +kernel
theorem dX7_scanned_60 : decode cX7_scanned 60 = .ok (.iload_n 2, 1) := by decide +kernel
theorem dX7_scanned_61 : decode cX7_scanned 61 = .ok (.iadd, 1) := by decide +kernel
theorem dX7_scanned_62 : decode cX7_scanned 62 = .ok (.iaload, 1) := by decide +kernel
theorem dX7_scanned_63 : decode cX7_scanned 63 = .ok (.goto 23, 3) := by decide +kernel
theorem dX7_scanned_66 : decode cX7_scanned 66 = .ok (.iload_n 3, 1) := by decide +kernel
theorem dX7_scanned_67 : decode cX7_scanned 67 = .ok (.iconst 1, 1) := by decide +kernel
theorem dX7_scanned_68 : decode cX7_scanned 68 = .ok (.if_icmp .ne 17, 3) := by decide +kernel
theorem dX7_scanned_71 : decode cX7_scanned 71 = .ok (.aload_n 0, 1) := by decide +kernel
theorem dX7_scanned_72 : decode cX7_scanned 72 = .ok (.getfield 77, 3) := by decide +kernel
theorem dX7_scanned_75 : decode cX7_scanned 75 = .ok (.bipush 20, 2) := by decide +kernel
theorem dX7_scanned_77 : decode cX7_scanned 77 = .ok (.iload_n 1, 1) := by decide +kernel
theorem dX7_scanned_78 : decode cX7_scanned 78 = .ok (.imul, 1) := by decide +kernel
theorem dX7_scanned_79 : decode cX7_scanned 79 = .ok (.iload_n 2, 1) := by decide +kernel
theorem dX7_scanned_80 : decode cX7_scanned 80 = .ok (.iadd, 1) := by decide +kernel
theorem dX7_scanned_81 : decode cX7_scanned 81 = .ok (.iaload, 1) := by decide +kernel
theorem dX7_scanned_82 : decode cX7_scanned 82 = .ok (.goto 4, 3) := by decide +kernel
theorem dX7_scanned_85 : decode cX7_scanned 85 = .ok (.iconst (-1), 1) := by decide +kernel
theorem dX7_scanned_86 : decode cX7_scanned 86 = .ok (.ireturn, 1) := by decide +kernel
theorem dX7_drop_0 : decode cX7_drop 0 = .ok (.aload_n 0, 1) := by decide +kernel
theorem dX7_drop_1 : decode cX7_drop 1 = .ok (.iconst 0, 1) := by decide +kernel
theorem dX7_drop_2 : decode cX7_drop 2 = .ok (.putfield 83, 3) := by decide +kernel
theorem dX7_drop_5 : decode cX7_drop 5 = .ok (.aload_n 0, 1) := by decide +kernel
theorem dX7_drop_6 : decode cX7_drop 6 = .ok (.iload_n 1, 1) := by decide +kernel
theorem dX7_drop_7 : decode cX7_drop 7 = .ok (.invokevirtual 118, 3) := by decide +kernel
theorem dX7_drop_10 : decode cX7_drop 10 = .ok (.ifCond .ne 6, 3) := by decide +kernel
theorem dX7_drop_13 : decode cX7_drop 13 = .ok (.bipush (-101), 2) := by decide +kernel
theorem dX7_drop_15 : decode cX7_drop 15 = .ok (.ireturn, 1) := by decide +kernel
theorem dX7_drop_16 : decode cX7_drop 16 = .ok (.aload_n 0, 1) := by decide +kernel
theorem dX7_drop_17 : decode cX7_drop 17 = .ok (.iload_n 1, 1) := by decide +kernel
theorem dX7_drop_18 : decode cX7_drop 18 = .ok (.iload_n 2, 1) := by decide +kernel
theorem dX7_drop_19 : decode cX7_drop 19 = .ok (.invokevirtual 128, 3) := by decide +kernel
theorem dX7_drop_22 : decode cX7_drop 22 = .ok (.ifCond .ne 11, 3) := by decide +kernel
theorem dX7_drop_25 : decode cX7_drop 25 = .ok (.aload_n 0, 1) := by decide +kernel
theorem dX7_drop_26 : decode cX7_drop 26 = .ok (.iload_n 1, 1) := by decide +kernel
theorem dX7_drop_27 : decode cX7_drop 27 = .ok (.bipush 104, 2) := by decide +kernel
theorem dX7_drop_29 : decode cX7_drop 29 = .ok (.invokevirtual 121, 3) := by decide +kernel
theorem dX7_drop_32 : decode cX7_drop 32 = .ok (.ireturn, 1) := by decide +kernel
theorem dX7_drop_33 : decode cX7_drop 33 = .ok (.aload_n 0, 1) := by decide +kernel
theorem dX7_drop_34 : decode cX7_drop 34 = .ok (.getfield 47, 3) := by decide +kernel
theorem dX7_drop_37 : decode cX7_drop 37 = .ok (.iconst 5, 1) := by decide +kernel
theorem dX7_drop_38 : decode cX7_drop 38 = .ok (.iload_n 1, 1) := by decide +kernel
theorem dX7_drop_39 : decode cX7_drop 39 = .ok (.imul, 1) := by decide +kernel
theorem dX7_drop_40 : decode cX7_drop 40 = .ok (.iload_n 2, 1) := by decide +kernel
theorem dX7_drop_41 : decode cX7_drop 41 = .ok (.iadd, 1) := by decide +kernel
theorem dX7_drop_42 : decode cX7_drop 42 = .ok (.iconst (-1), 1) := by decide +kernel
theorem dX7_drop_43 : decode cX7_drop 43 = .ok (.iastore, 1) := by decide +kernel
theorem dX7_drop_44 : decode cX7_drop 44 = .ok (.iconst 1, 1) := by decide +kernel
theorem dX7_drop_45 : decode cX7_drop 45 = .ok (.ireturn, 1) := by decide +kernel
theorem dX7_sets_0 : decode cX7_sets 0 = .ok (.iconst 0, 1) := by decide +kernel
theorem dX7_sets_1 : decode cX7_sets 1 = .ok (.istore_n 2, 1) := by decide +kernel
theorem dX7_sets_2 : decode cX7_sets 2 = .ok (.iconst 5, 1) := by decide +kernel
theorem dX7_sets_3 : decode cX7_sets 3 = .ok (.iload_n 1, 1) := by decide +kernel
theorem dX7_sets_4 : decode cX7_sets 4 = .ok (.imul, 1) := by decide +kernel
theorem dX7_sets_5 : decode cX7_sets 5 = .ok (.istore_n 3, 1) := by decide +kernel
theorem dX7_sets_6 : decode cX7_sets 6 = .ok (.iload_n 3, 1) := by decide +kernel
theorem dX7_sets_7 : decode cX7_sets 7 = .ok (.iconst 5, 1) := by decide +kernel
theorem dX7_sets_8 : decode cX7_sets 8 = .ok (.iload_n 1, 1) := by decide +kernel
theorem dX7_sets_9 : decode cX7_sets 9 = .ok (.imul, 1) := by decide +kernel
theorem dX7_sets_10 : decode cX7_sets 10 = .ok (.iconst 5, 1) := by decide +kernel
theorem dX7_sets_11 : decode cX7_sets 11 = .ok (.iadd, 1) := by decide +kernel
theorem dX7_sets_12 : decode cX7_sets 12 = .ok (.if_icmp .ge 26, 3) := by decide +kernel
theorem dX7_sets_15 : decode cX7_sets 15 = .ok (.iload_n 2, 1) := by decide +kernel
theorem dX7_sets_16 : decode cX7_sets 16 = .ok (.aload_n 0, 1) := by decide +kernel
theorem dX7_sets_17 : decode cX7_sets 17 = .ok (.getfield 47, 3) := by decide +kernel
theorem dX7_sets_20 : decode cX7_sets 20 = .ok (.iload_n 3, 1) := by decide +kernel
theorem dX7_sets_21 : decode cX7_sets 21 = .ok (.iaload, 1) := by decide +kernel
theorem dX7_sets_22 : decode cX7_sets 22 = .ok (.ifCond .lt 7, 3) := by decide +kernel
theorem dX7_sets_25 : decode cX7_sets 25 = .ok (.iconst 1, 1) := by decide +kernel
theorem dX7_sets_26 : decode cX7_sets 26 = .ok (.goto 4, 3) := by decide +kernel
theorem dX7_sets_29 : decode cX7_sets 29 = .ok (.iconst 0, 1) := by decide +kernel
theorem dX7_sets_30 : decode cX7_sets 30 = .ok (.iadd, 1) := by decide +kernel
theorem dX7_sets_31 : decode cX7_sets 31 = .ok (.istore_n 2, 1) := by decide +kernel
theorem dX7_sets_32 : decode cX7_sets 32 = .ok (.iinc 3 1, 3) := by decide +kernel
theorem dX7_sets_35 : decode cX7_sets 35 = .ok (.goto (-29), 3) := by decide +kernel
theorem dX7_sets_38 : decode cX7_sets 38 = .ok (.iload_n 2, 1) := by decide +kernel
theorem dX7_sets_39 : decode cX7_sets 39 = .ok (.ireturn, 1) := by decide +kernel
theorem dX7_close_0 : decode cX7_close 0 = .ok (.aload_n 0, 1) := by decide +kernel
theorem dX7_close_1 : decode cX7_close 1 = .ok (.iconst 0, 1) := by decide +kernel
theorem dX7_close_2 : decode cX7_close 2 = .ok (.putfield 83, 3) := by decide +kernel
theorem dX7_close_5 : decode cX7_close 5 = .ok (.aload_n 0, 1) := by decide +kernel
theorem dX7_close_6 : decode cX7_close 6 = .ok (.iload_n 1, 1) := by decide +kernel
theorem dX7_close_7 : decode cX7_close 7 = .ok (.invokevirtual 118, 3) := by decide +kernel
theorem dX7_close_10 : decode cX7_close 10 = .ok (.ifCond .ne 6, 3) := by decide +kernel
theorem dX7_close_13 : decode cX7_close 13 = .ok (.bipush (-101), 2) := by decide +kernel
theorem dX7_close_15 : decode cX7_close 15 = .ok (.ireturn, 1) := by decide +kernel
theorem dX7_close_16 : decode cX7_close 16 = .ok (.aload_n 0, 1) := by decide +kernel
theorem dX7_close_17 : decode cX7_close 17 = .ok (.iload_n 1, 1) := by decide +kernel
theorem dX7_close_18 : decode cX7_close 18 = .ok (.invokevirtual 138, 3) := by decide +kernel
theorem dX7_close_21 : decode cX7_close 21 = .ok (.istore_n 2, 1) := by decide +kernel
theorem dX7_close_22 : decode cX7_close 22 = .ok (.aload_n 0, 1) := by decide +kernel
theorem dX7_close_23 : decode cX7_close 23 = .ok (.iload_n 1, 1) := by decide +kernel
theorem dX7_close_24 : decode cX7_close 24 = .ok (.invokevirtual 110, 3) := by decide +kernel
theorem dX7_close_27 : decode cX7_close 27 = .ok (.iload_n 2, 1) := by decide +kernel
theorem dX7_close_28 : decode cX7_close 28 = .ok (.ireturn, 1) := by decide +kernel
theorem dX7_state_0 : decode cX7_state 0 = .ok (.aload_n 0, 1) := by decide +kernel
theorem dX7_state_1 : decode cX7_state 1 = .ok (.iconst 0, 1) := by decide +kernel
theorem dX7_state_2 : decode cX7_state 2 = .ok (.putfield 83, 3) := by decide +kernel
theorem dX7_state_5 : decode cX7_state 5 = .ok (.iload_n 1, 1) := by decide +kernel
theorem dX7_state_6 : decode cX7_state 6 = .ok (.iconst 0, 1) := by decide +kernel
theorem dX7_state_7 : decode cX7_state 7 = .ok (.bipush 7, 2) := by decide +kernel
theorem dX7_state_9 : decode cX7_state 9 = .ok (.invokestatic 87, 3) := by decide +kernel
theorem dX7_state_12 : decode cX7_state 12 = .ok (.ifCond .eq 12, 3) := by decide +kernel
theorem dX7_state_15 : decode cX7_state 15 = .ok (.iload_n 2, 1) := by decide +kernel
theorem dX7_state_16 : decode cX7_state 16 = .ok (.iconst 0, 1) := by decide +kernel
theorem dX7_state_17 : decode cX7_state 17 = .ok (.iconst 3, 1) := by decide +kernel
theorem dX7_state_18 : decode cX7_state 18 = .ok (.invokestatic 87, 3) := by decide +kernel
theorem dX7_state_21 : decode cX7_state 21 = .ok (.ifCond .ne 5, 3) := by decide +kernel
theorem dX7_state_24 : decode cX7_state 24 = .ok (.iconst (-1), 1) := by decide +kernel
theorem dX7_state_25 : decode cX7_state 25 = .ok (.ireturn, 1) := by decide +kernel
theorem dX7_state_26 : decode cX7_state 26 = .ok (.iload_n 1, 1) := by decide +kernel
theorem dX7_state_27 : decode cX7_state 27 = .ok (.aload_n 0, 1) := by decide +kernel
theorem dX7_state_28 : decode cX7_state 28 = .ok (.getfield 107, 3) := by decide +kernel
theorem dX7_state_31 : decode cX7_state 31 = .ok (.if_icmp .lt 5, 3) := by decide +kernel
theorem dX7_state_34 : decode cX7_state 34 = .ok (.iconst 0, 1) := by decide +kernel
theorem dX7_state_35 : decode cX7_state 35 = .ok (.ireturn, 1) := by decide +kernel
theorem dX7_state_36 : decode cX7_state 36 = .ok (.iload_n 2, 1) := by decide +kernel
theorem dX7_state_37 : decode cX7_state 37 = .ok (.ifCond .ne 20, 3) := by decide +kernel
theorem dX7_state_40 : decode cX7_state 40 = .ok (.aload_n 0, 1) := by decide +kernel
theorem dX7_state_41 : decode cX7_state 41 = .ok (.getfield 38, 3) := by decide +kernel
theorem dX7_state_44 : decode cX7_state 44 = .ok (.iload_n 1, 1) := by decide +kernel
theorem dX7_state_45 : decode cX7_state 45 = .ok (.baload, 1) := by decide +kernel
theorem dX7_state_46 : decode cX7_state 46 = .ok (.ifCond .eq 7, 3) := by decide +kernel
theorem dX7_state_49 : decode cX7_state 49 = .ok (.iconst 2, 1) := by decide +kernel
theorem dX7_state_50 : decode cX7_state 50 = .ok (.goto 40, 3) := by decide +kernel
theorem dX7_state_53 : decode cX7_state 53 = .ok (.iconst 1, 1) := by decide +kernel
theorem dX7_state_54 : decode cX7_state 54 = .ok (.goto 36, 3) := by decide +kernel
theorem dX7_state_57 : decode cX7_state 57 = .ok (.iload_n 2, 1) := by decide +kernel
theorem dX7_state_58 : decode cX7_state 58 = .ok (.iconst 1, 1) := by decide +kernel
theorem dX7_state_59 : decode cX7_state 59 = .ok (.if_icmp .ne 12, 3) := by decide +kernel
theorem dX7_state_62 : decode cX7_state 62 = .ok (.aload_n 0, 1) := by decide +kernel
theorem dX7_state_63 : decode cX7_state 63 = .ok (.getfield 41, 3) := by decide +kernel
theorem dX7_state_66 : decode cX7_state 66 = .ok (.iload_n 1, 1) := by decide +kernel
theorem dX7_state_67 : decode cX7_state 67 = .ok (.iaload, 1) := by decide +kernel
theorem dX7_state_68 : decode cX7_state 68 = .ok (.goto 22, 3) := by decide +kernel
theorem dX7_state_71 : decode cX7_state 71 = .ok (.iload_n 2, 1) := by decide +kernel
theorem dX7_state_72 : decode cX7_state 72 = .ok (.iconst 2, 1) := by decide +kernel
theorem dX7_state_73 : decode cX7_state 73 = .ok (.if_icmp .ne 12, 3) := by decide +kernel
theorem dX7_state_76 : decode cX7_state 76 = .ok (.aload_n 0, 1) := by decide +kernel
theorem dX7_state_77 : decode cX7_state 77 = .ok (.getfield 44, 3) := by decide +kernel
theorem dX7_state_80 : decode cX7_state 80 = .ok (.iload_n 1, 1) := by decide +kernel
theorem dX7_state_81 : decode cX7_state 81 = .ok (.iaload, 1) := by decide +kernel
theorem dX7_state_82 : decode cX7_state 82 = .ok (.goto 8, 3) := by decide +kernel
theorem dX7_state_85 : decode cX7_state 85 = .ok (.aload_n 0, 1) := by decide +kernel
theorem dX7_state_86 : decode cX7_state 86 = .ok (.iload_n 1, 1) := by decide +kernel
theorem dX7_state_87 : decode cX7_state 87 = .ok (.invokevirtual 138, 3) := by decide +kernel
theorem dX7_state_90 : decode cX7_state 90 = .ok (.ireturn, 1) := by decide +kernel
