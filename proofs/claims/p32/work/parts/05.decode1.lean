theorem dX0_init_0 : decode cX0_init 0 = .ok (.aload_n 0, 1) := by decide +kernel
theorem dX0_init_1 : decode cX0_init 1 = .ok (.invokespecial 3, 3) := by decide +kernel
theorem dX0_init_4 : decode cX0_init 4 = .ok (.aload_n 0, 1) := by decide +kernel
theorem dX0_init_5 : decode cX0_init 5 = .ok (.sipush 1500, 3) := by decide +kernel
theorem dX0_init_8 : decode cX0_init 8 = .ok (.newarray .int, 2) := by decide +kernel
theorem dX0_init_10 : decode cX0_init 10 = .ok (.putfield 9, 3) := by decide +kernel
theorem dX0_init_13 : decode cX0_init 13 = .ok (.aload_n 0, 1) := by decide +kernel
theorem dX0_init_14 : decode cX0_init 14 = .ok (.sipush 1500, 3) := by decide +kernel
theorem dX0_init_17 : decode cX0_init 17 = .ok (.newarray .long, 2) := by decide +kernel
theorem dX0_init_19 : decode cX0_init 19 = .ok (.putfield 15, 3) := by decide +kernel
theorem dX0_init_22 : decode cX0_init 22 = .ok (.aload_n 0, 1) := by decide +kernel
theorem dX0_init_23 : decode cX0_init 23 = .ok (.sipush 1500, 3) := by decide +kernel
theorem dX0_init_26 : decode cX0_init 26 = .ok (.newarray .int, 2) := by decide +kernel
theorem dX0_init_28 : decode cX0_init 28 = .ok (.putfield 19, 3) := by decide +kernel
theorem dX0_init_31 : decode cX0_init 31 = .ok (.aload_n 0, 1) := by decide +kernel
theorem dX0_init_32 : decode cX0_init 32 = .ok (.sipush 1500, 3) := by decide +kernel
theorem dX0_init_35 : decode cX0_init 35 = .ok (.newarray .int, 2) := by decide +kernel
theorem dX0_init_37 : decode cX0_init 37 = .ok (.putfield 22, 3) := by decide +kernel
theorem dX0_init_40 : decode cX0_init 40 = .ok (.aload_n 0, 1) := by decide +kernel
theorem dX0_init_41 : decode cX0_init 41 = .ok (.bipush 60, 2) := by decide +kernel
theorem dX0_init_43 : decode cX0_init 43 = .ok (.newarray .long, 2) := by decide +kernel
theorem dX0_init_45 : decode cX0_init 45 = .ok (.putfield 25, 3) := by decide +kernel
theorem dX0_init_48 : decode cX0_init 48 = .ok (.return_, 1) := by decide +kernel
theorem dX0_clear_0 : decode cX0_clear 0 = .ok (.aload_n 0, 1) := by decide +kernel
theorem dX0_clear_1 : decode cX0_clear 1 = .ok (.iconst 0, 1) := by decide +kernel
theorem dX0_clear_2 : decode cX0_clear 2 = .ok (.putfield 28, 3) := by decide +kernel
theorem dX0_clear_5 : decode cX0_clear 5 = .ok (.aload_n 0, 1) := by decide +kernel
theorem dX0_clear_6 : decode cX0_clear 6 = .ok (.iconst 0, 1) := by decide +kernel
theorem dX0_clear_7 : decode cX0_clear 7 = .ok (.putfield 32, 3) := by decide +kernel
theorem dX0_clear_10 : decode cX0_clear 10 = .ok (.return_, 1) := by decide +kernel
theorem dX0_beginExpression_0 : decode cX0_beginExpression 0 = .ok (.aload_n 0, 1) := by decide +kernel
theorem dX0_beginExpression_1 : decode cX0_beginExpression 1 = .ok (.getfield 32, 3) := by decide +kernel
theorem dX0_beginExpression_4 : decode cX0_beginExpression 4 = .ok (.aload_n 0, 1) := by decide +kernel
theorem dX0_beginExpression_5 : decode cX0_beginExpression 5 = .ok (.getfield 19, 3) := by decide +kernel
theorem dX0_beginExpression_8 : decode cX0_beginExpression 8 = .ok (.arraylength, 1) := by decide +kernel
theorem dX0_beginExpression_9 : decode cX0_beginExpression 9 = .ok (.if_icmp .lt 5, 3) := by decide +kernel
theorem dX0_beginExpression_12 : decode cX0_beginExpression 12 = .ok (.iconst (-1), 1) := by decide +kernel
theorem dX0_beginExpression_13 : decode cX0_beginExpression 13 = .ok (.ireturn, 1) := by decide +kernel
theorem dX0_beginExpression_14 : decode cX0_beginExpression 14 = .ok (.aload_n 0, 1) := by decide +kernel
theorem dX0_beginExpression_15 : decode cX0_beginExpression 15 = .ok (.getfield 19, 3) := by decide +kernel
theorem dX0_beginExpression_18 : decode cX0_beginExpression 18 = .ok (.aload_n 0, 1) := by decide +kernel
theorem dX0_beginExpression_19 : decode cX0_beginExpression 19 = .ok (.getfield 32, 3) := by decide +kernel
theorem dX0_beginExpression_22 : decode cX0_beginExpression 22 = .ok (.aload_n 0, 1) := by decide +kernel
theorem dX0_beginExpression_23 : decode cX0_beginExpression 23 = .ok (.getfield 28, 3) := by decide +kernel
theorem dX0_beginExpression_26 : decode cX0_beginExpression 26 = .ok (.iastore, 1) := by decide +kernel
theorem dX0_beginExpression_27 : decode cX0_beginExpression 27 = .ok (.aload_n 0, 1) := by decide +kernel
theorem dX0_beginExpression_28 : decode cX0_beginExpression 28 = .ok (.getfield 22, 3) := by decide +kernel
theorem dX0_beginExpression_31 : decode cX0_beginExpression 31 = .ok (.aload_n 0, 1) := by decide +kernel
theorem dX0_beginExpression_32 : decode cX0_beginExpression 32 = .ok (.getfield 32, 3) := by decide +kernel
theorem dX0_beginExpression_35 : decode cX0_beginExpression 35 = .ok (.aload_n 0, 1) := by decide +kernel
theorem dX0_beginExpression_36 : decode cX0_beginExpression 36 = .ok (.getfield 28, 3) := by decide +kernel
theorem dX0_beginExpression_39 : decode cX0_beginExpression 39 = .ok (.iastore, 1) := by decide +kernel
theorem dX0_beginExpression_40 : decode cX0_beginExpression 40 = .ok (.aload_n 0, 1) := by decide +kernel
theorem dX0_beginExpression_41 : decode cX0_beginExpression 41 = .ok (.dup, 1) := by decide +kernel
theorem dX0_beginExpression_42 : decode cX0_beginExpression 42 = .ok (.getfield 32, 3) := by decide +kernel
theorem dX0_beginExpression_45 : decode cX0_beginExpression 45 = .ok (.iconst 1, 1) := by decide +kernel
theorem dX0_beginExpression_46 : decode cX0_beginExpression 46 = .ok (.iadd, 1) := by decide +kernel
theorem dX0_beginExpression_47 : decode cX0_beginExpression 47 = .ok (.putfield 32, 3) := by decide +kernel
theorem dX0_beginExpression_50 : decode cX0_beginExpression 50 = .ok (.aload_n 0, 1) := by decide +kernel
theorem dX0_beginExpression_51 : decode cX0_beginExpression 51 = .ok (.getfield 32, 3) := by decide +kernel
theorem dX0_beginExpression_54 : decode cX0_beginExpression 54 = .ok (.iconst 1, 1) := by decide +kernel
theorem dX0_beginExpression_55 : decode cX0_beginExpression 55 = .ok (.isub, 1) := by decide +kernel
theorem dX0_beginExpression_56 : decode cX0_beginExpression 56 = .ok (.ireturn, 1) := by decide +kernel
theorem dX0_add_0 : decode cX0_add 0 = .ok (.aload_n 0, 1) := by decide +kernel
theorem dX0_add_1 : decode cX0_add 1 = .ok (.getfield 28, 3) := by decide +kernel
theorem dX0_add_4 : decode cX0_add 4 = .ok (.aload_n 0, 1) := by decide +kernel
theorem dX0_add_5 : decode cX0_add 5 = .ok (.getfield 9, 3) := by decide +kernel
theorem dX0_add_8 : decode cX0_add 8 = .ok (.arraylength, 1) := by decide +kernel
theorem dX0_add_9 : decode cX0_add 9 = .ok (.if_icmp .ge 55, 3) := by decide +kernel
theorem dX0_add_12 : decode cX0_add 12 = .ok (.aload_n 0, 1) := by decide +kernel
theorem dX0_add_13 : decode cX0_add 13 = .ok (.getfield 32, 3) := by decide +kernel
theorem dX0_add_16 : decode cX0_add 16 = .ok (.ifCond .le 48, 3) := by decide +kernel
theorem dX0_add_19 : decode cX0_add 19 = .ok (.aload_n 0, 1) := by decide +kernel
theorem dX0_add_20 : decode cX0_add 20 = .ok (.getfield 9, 3) := by decide +kernel
theorem dX0_add_23 : decode cX0_add 23 = .ok (.aload_n 0, 1) := by decide +kernel
theorem dX0_add_24 : decode cX0_add 24 = .ok (.getfield 28, 3) := by decide +kernel
theorem dX0_add_27 : decode cX0_add 27 = .ok (.iload_n 1, 1) := by decide +kernel
theorem dX0_add_28 : decode cX0_add 28 = .ok (.iastore, 1) := by decide +kernel
theorem dX0_add_29 : decode cX0_add 29 = .ok (.aload_n 0, 1) := by decide +kernel
theorem dX0_add_30 : decode cX0_add 30 = .ok (.getfield 15, 3) := by decide +kernel
theorem dX0_add_33 : decode cX0_add 33 = .ok (.aload_n 0, 1) := by decide +kernel
theorem dX0_add_34 : decode cX0_add 34 = .ok (.getfield 28, 3) := by decide +kernel
theorem dX0_add_37 : decode cX0_add 37 = .ok (.lload_n 2, 1) := by decide +kernel
theorem dX0_add_38 : decode cX0_add 38 = .ok (.lastore, 1) := by decide +kernel
theorem dX0_add_39 : decode cX0_add 39 = .ok (.aload_n 0, 1) := by decide +kernel
theorem dX0_add_40 : decode cX0_add 40 = .ok (.dup, 1) := by decide +kernel
theorem dX0_add_41 : decode cX0_add 41 = .ok (.getfield 28, 3) := by decide +kernel
theorem dX0_add_44 : decode cX0_add 44 = .ok (.iconst 1, 1) := by decide +kernel
theorem dX0_add_45 : decode cX0_add 45 = .ok (.iadd, 1) := by decide +kernel
theorem dX0_add_46 : decode cX0_add 46 = .ok (.putfield 28, 3) := by decide +kernel
theorem dX0_add_49 : decode cX0_add 49 = .ok (.aload_n 0, 1) := by decide +kernel
theorem dX0_add_50 : decode cX0_add 50 = .ok (.getfield 22, 3) := by decide +kernel
theorem dX0_add_53 : decode cX0_add 53 = .ok (.aload_n 0, 1) := by decide +kernel
theorem dX0_add_54 : decode cX0_add 54 = .ok (.getfield 32, 3) := by decide +kernel
theorem dX0_add_57 : decode cX0_add 57 = .ok (.iconst 1, 1) := by decide +kernel
theorem dX0_add_58 : decode cX0_add 58 = .ok (.isub, 1) := by decide +kernel
theorem dX0_add_59 : decode cX0_add 59 = .ok (.aload_n 0, 1) := by decide +kernel
theorem dX0_add_60 : decode cX0_add 60 = .ok (.getfield 28, 3) := by decide +kernel
theorem dX0_add_63 : decode cX0_add 63 = .ok (.iastore, 1) := by decide +kernel
theorem dX0_add_64 : decode cX0_add 64 = .ok (.return_, 1) := by decide +kernel
theorem dX0_reckon_0 : decode cX0_reckon 0 = .ok (.iload_n 1, 1) := by decide +kernel
theorem dX0_reckon_1 : decode cX0_reckon 1 = .ok (.ifCond .lt 11, 3) := by decide +kernel
theorem dX0_reckon_4 : decode cX0_reckon 4 = .ok (.iload_n 1, 1) := by decide +kernel
theorem dX0_reckon_5 : decode cX0_reckon 5 = .ok (.aload_n 0, 1) := by decide +kernel
theorem dX0_reckon_6 : decode cX0_reckon 6 = .ok (.getfield 32, 3) := by decide +kernel
theorem dX0_reckon_9 : decode cX0_reckon 9 = .ok (.if_icmp .lt 5, 3) := by decide +kernel
theorem dX0_reckon_12 : decode cX0_reckon 12 = .ok (.lconst 0, 1) := by decide +kernel
theorem dX0_reckon_13 : decode cX0_reckon 13 = .ok (.lreturn, 1) := by decide +kernel
theorem dX0_reckon_14 : decode cX0_reckon 14 = .ok (.iconst 0, 1) := by decide +kernel
theorem dX0_reckon_15 : decode cX0_reckon 15 = .ok (.istore 4, 2) := by decide +kernel
theorem dX0_reckon_17 : decode cX0_reckon 17 = .ok (.aload_n 0, 1) := by decide +kernel
theorem dX0_reckon_18 : decode cX0_reckon 18 = .ok (.getfield 19, 3) := by decide +kernel
theorem dX0_reckon_21 : decode cX0_reckon 21 = .ok (.iload_n 1, 1) := by decide +kernel
theorem dX0_reckon_22 : decode cX0_reckon 22 = .ok (.iaload, 1) := by decide +kernel
theorem dX0_reckon_23 : decode cX0_reckon 23 = .ok (.istore 5, 2) := by decide +kernel
theorem dX0_reckon_25 : decode cX0_reckon 25 = .ok (.iload 5, 2) := by decide +kernel
theorem dX0_reckon_27 : decode cX0_reckon 27 = .ok (.aload_n 0, 1) := by decide +kernel
theorem dX0_reckon_28 : decode cX0_reckon 28 = .ok (.getfield 22, 3) := by decide +kernel
theorem dX0_reckon_31 : decode cX0_reckon 31 = .ok (.iload_n 1, 1) := by decide +kernel
theorem dX0_reckon_32 : decode cX0_reckon 32 = .ok (.iaload, 1) := by decide +kernel
theorem dX0_reckon_33 : decode cX0_reckon 33 = .ok (.if_icmp .ge 161, 3) := by decide +kernel
theorem dX0_reckon_36 : decode cX0_reckon 36 = .ok (.aload_n 0, 1) := by decide +kernel
theorem dX0_reckon_37 : decode cX0_reckon 37 = .ok (.getfield 9, 3) := by decide +kernel
theorem dX0_reckon_40 : decode cX0_reckon 40 = .ok (.iload 5, 2) := by decide +kernel
theorem dX0_reckon_42 : decode cX0_reckon 42 = .ok (.iaload, 1) := by decide +kernel
theorem dX0_reckon_43 : decode cX0_reckon 43 = .ok (.istore 6, 2) := by decide +kernel
theorem dX0_reckon_45 : decode cX0_reckon 45 = .ok (.iload 6, 2) := by decide +kernel
theorem dX0_reckon_47 : decode cX0_reckon 47 = .ok (.sipush 274, 3) := by decide +kernel
theorem dX0_reckon_50 : decode cX0_reckon 50 = .ok (.if_icmp .ne 21, 3) := by decide +kernel
theorem dX0_reckon_53 : decode cX0_reckon 53 = .ok (.aload_n 0, 1) := by decide +kernel
theorem dX0_reckon_54 : decode cX0_reckon 54 = .ok (.iload 4, 2) := by decide +kernel
theorem dX0_reckon_56 : decode cX0_reckon 56 = .ok (.aload_n 0, 1) := by decide +kernel
theorem dX0_reckon_57 : decode cX0_reckon 57 = .ok (.getfield 15, 3) := by decide +kernel
theorem dX0_reckon_60 : decode cX0_reckon 60 = .ok (.iload 5, 2) := by decide +kernel
theorem dX0_reckon_62 : decode cX0_reckon 62 = .ok (.laload, 1) := by decide +kernel
theorem dX0_reckon_63 : decode cX0_reckon 63 = .ok (.invokevirtual 35, 3) := by decide +kernel
theorem dX0_reckon_66 : decode cX0_reckon 66 = .ok (.istore 4, 2) := by decide +kernel
theorem dX0_reckon_68 : decode cX0_reckon 68 = .ok (.goto 120, 3) := by decide +kernel
theorem dX0_reckon_71 : decode cX0_reckon 71 = .ok (.iload 6, 2) := by decide +kernel
theorem dX0_reckon_73 : decode cX0_reckon 73 = .ok (.sipush 273, 3) := by decide +kernel
theorem dX0_reckon_76 : decode cX0_reckon 76 = .ok (.if_icmp .ne 33, 3) := by decide +kernel
theorem dX0_reckon_79 : decode cX0_reckon 79 = .ok (.iload_n 3, 1) := by decide +kernel
theorem dX0_reckon_80 : decode cX0_reckon 80 = .ok (.aload_n 0, 1) := by decide +kernel
theorem dX0_reckon_81 : decode cX0_reckon 81 = .ok (.getfield 15, 3) := by decide +kernel
theorem dX0_reckon_84 : decode cX0_reckon 84 = .ok (.iload 5, 2) := by decide +kernel
theorem dX0_reckon_86 : decode cX0_reckon 86 = .ok (.laload, 1) := by decide +kernel
theorem dX0_reckon_87 : decode cX0_reckon 87 = .ok (.l2i, 1) := by decide +kernel
theorem dX0_reckon_88 : decode cX0_reckon 88 = .ok (.iadd, 1) := by decide +kernel
theorem dX0_reckon_89 : decode cX0_reckon 89 = .ok (.istore 7, 2) := by decide +kernel
theorem dX0_reckon_91 : decode cX0_reckon 91 = .ok (.aload_n 0, 1) := by decide +kernel
theorem dX0_reckon_92 : decode cX0_reckon 92 = .ok (.iload 4, 2) := by decide +kernel
theorem dX0_reckon_94 : decode cX0_reckon 94 = .ok (.aload_n 2, 1) := by decide +kernel
theorem dX0_reckon_95 : decode cX0_reckon 95 = .ok (.iload 7, 2) := by decide +kernel
theorem dX0_reckon_97 : decode cX0_reckon 97 = .ok (.invokestatic 39, 3) := by decide +kernel
theorem dX0_reckon_100 : decode cX0_reckon 100 = .ok (.i2l, 1) := by decide +kernel
theorem dX0_reckon_101 : decode cX0_reckon 101 = .ok (.invokevirtual 35, 3) := by decide +kernel
theorem dX0_reckon_104 : decode cX0_reckon 104 = .ok (.istore 4, 2) := by decide +kernel
theorem dX0_reckon_106 : decode cX0_reckon 106 = .ok (.goto 82, 3) := by decide +kernel
theorem dX0_reckon_109 : decode cX0_reckon 109 = .ok (.iload 6, 2) := by decide +kernel
theorem dX0_reckon_111 : decode cX0_reckon 111 = .ok (.invokestatic 43, 3) := by decide +kernel
theorem dX0_reckon_114 : decode cX0_reckon 114 = .ok (.ifCond .eq 35, 3) := by decide +kernel
theorem dX0_reckon_117 : decode cX0_reckon 117 = .ok (.iload 4, 2) := by decide +kernel
theorem dX0_reckon_119 : decode cX0_reckon 119 = .ok (.iconst 1, 1) := by decide +kernel
theorem dX0_reckon_120 : decode cX0_reckon 120 = .ok (.if_icmp .lt 68, 3) := by decide +kernel
theorem dX0_reckon_123 : decode cX0_reckon 123 = .ok (.aload_n 0, 1) := by decide +kernel
theorem dX0_reckon_124 : decode cX0_reckon 124 = .ok (.getfield 25, 3) := by decide +kernel
theorem dX0_reckon_127 : decode cX0_reckon 127 = .ok (.iload 4, 2) := by decide +kernel
theorem dX0_reckon_129 : decode cX0_reckon 129 = .ok (.iconst 1, 1) := by decide +kernel
theorem dX0_reckon_130 : decode cX0_reckon 130 = .ok (.isub, 1) := by decide +kernel
theorem dX0_reckon_131 : decode cX0_reckon 131 = .ok (.iload 6, 2) := by decide +kernel
theorem dX0_reckon_133 : decode cX0_reckon 133 = .ok (.aload_n 0, 1) := by decide +kernel
theorem dX0_reckon_134 : decode cX0_reckon 134 = .ok (.getfield 25, 3) := by decide +kernel
theorem dX0_reckon_137 : decode cX0_reckon 137 = .ok (.iload 4, 2) := by decide +kernel
theorem dX0_reckon_139 : decode cX0_reckon 139 = .ok (.iconst 1, 1) := by decide +kernel
theorem dX0_reckon_140 : decode cX0_reckon 140 = .ok (.isub, 1) := by decide +kernel
theorem dX0_reckon_141 : decode cX0_reckon 141 = .ok (.laload, 1) := by decide +kernel
theorem dX0_reckon_142 : decode cX0_reckon 142 = .ok (.invokestatic 47, 3) := by decide +kernel
theorem dX0_reckon_145 : decode cX0_reckon 145 = .ok (.lastore, 1) := by decide +kernel
theorem dX0_reckon_146 : decode cX0_reckon 146 = .ok (.goto 42, 3) := by decide +kernel
theorem dX0_reckon_149 : decode cX0_reckon 149 = .ok (.iload 4, 2) := by decide +kernel
theorem dX0_reckon_151 : decode cX0_reckon 151 = .ok (.iconst 2, 1) := by decide +kernel
theorem dX0_reckon_152 : decode cX0_reckon 152 = .ok (.if_icmp .lt 36, 3) := by decide +kernel
theorem dX0_reckon_155 : decode cX0_reckon 155 = .ok (.iinc 4 (-1), 3) := by decide +kernel
theorem dX0_reckon_158 : decode cX0_reckon 158 = .ok (.aload_n 0, 1) := by decide +kernel
theorem dX0_reckon_159 : decode cX0_reckon 159 = .ok (.getfield 25, 3) := by decide +kernel
theorem dX0_reckon_162 : decode cX0_reckon 162 = .ok (.iload 4, 2) := by decide +kernel
theorem dX0_reckon_164 : decode cX0_reckon 164 = .ok (.iconst 1, 1) := by decide +kernel
theorem dX0_reckon_165 : decode cX0_reckon 165 = .ok (.isub, 1) := by decide +kernel
theorem dX0_reckon_166 : decode cX0_reckon 166 = .ok (.iload 6, 2) := by decide +kernel
theorem dX0_reckon_168 : decode cX0_reckon 168 = .ok (.aload_n 0, 1) := by decide +kernel
theorem dX0_reckon_169 : decode cX0_reckon 169 = .ok (.getfield 25, 3) := by decide +kernel
theorem dX0_reckon_172 : decode cX0_reckon 172 = .ok (.iload 4, 2) := by decide +kernel
theorem dX0_reckon_174 : decode cX0_reckon 174 = .ok (.iconst 1, 1) := by decide +kernel
theorem dX0_reckon_175 : decode cX0_reckon 175 = .ok (.isub, 1) := by decide +kernel
theorem dX0_reckon_176 : decode cX0_reckon 176 = .ok (.laload, 1) := by decide +kernel
theorem dX0_reckon_177 : decode cX0_reckon 177 = .ok (.aload_n 0, 1) := by decide +kernel
theorem dX0_reckon_178 : decode cX0_reckon 178 = .ok (.getfield 25, 3) := by decide +kernel
theorem dX0_reckon_181 : decode cX0_reckon 181 = .ok (.iload 4, 2) := by decide +kernel
theorem dX0_reckon_183 : decode cX0_reckon 183 = .ok (.laload, 1) := by decide +kernel
theorem dX0_reckon_184 : decode cX0_reckon 184 = .ok (.invokestatic 51, 3) := by decide +kernel
theorem dX0_reckon_187 : decode cX0_reckon 187 = .ok (.lastore, 1) := by decide +kernel
theorem dX0_reckon_188 : decode cX0_reckon 188 = .ok (.iinc 5 1, 3) := by decide +kernel
theorem dX0_reckon_191 : decode cX0_reckon 191 = .ok (.goto (-166), 3) := by decide +kernel
theorem dX0_reckon_194 : decode cX0_reckon 194 = .ok (.iload 4, 2) := by decide +kernel
theorem dX0_reckon_196 : decode cX0_reckon 196 = .ok (.ifCond .le 12, 3) := by decide +kernel
theorem dX0_reckon_199 : decode cX0_reckon 199 = .ok (.aload_n 0, 1) := by decide +kernel
theorem dX0_reckon_200 : decode cX0_reckon 200 = .ok (.getfield 25, 3) := by decide +kernel
theorem dX0_reckon_203 : decode cX0_reckon 203 = .ok (.iconst 0, 1) := by decide +kernel
theorem dX0_reckon_204 : decode cX0_reckon 204 = .ok (.laload, 1) := by decide +kernel
theorem dX0_reckon_205 : decode cX0_reckon 205 = .ok (.goto 4, 3) := by decide +kernel
theorem dX0_reckon_208 : decode cX0_reckon 208 = .ok (.lconst 0, 1) := by decide +kernel
theorem dX0_reckon_209 : decode cX0_reckon 209 = .ok (.lreturn, 1) := by decide +kernel
theorem dX0_push_0 : decode cX0_push 0 = .ok (.iload_n 1, 1) := by decide +kernel
theorem dX0_push_1 : decode cX0_push 1 = .ok (.aload_n 0, 1) := by decide +kernel
theorem dX0_push_2 : decode cX0_push 2 = .ok (.getfield 25, 3) := by decide +kernel
theorem dX0_push_5 : decode cX0_push 5 = .ok (.arraylength, 1) := by decide +kernel
theorem dX0_push_6 : decode cX0_push 6 = .ok (.if_icmp .lt 5, 3) := by decide +kernel
theorem dX0_push_9 : decode cX0_push 9 = .ok (.iload_n 1, 1) := by decide +kernel
theorem dX0_push_10 : decode cX0_push 10 = .ok (.ireturn, 1) := by decide +kernel
theorem dX0_push_11 : decode cX0_push 11 = .ok (.aload_n 0, 1) := by decide +kernel
theorem dX0_push_12 : decode cX0_push 12 = .ok (.getfield 25, 3) := by decide +kernel
theorem dX0_push_15 : decode cX0_push 15 = .ok (.iload_n 1, 1) := by decide +kernel
theorem dX0_push_16 : decode cX0_push 16 = .ok (.lload_n 2, 1) := by decide +kernel
theorem dX0_push_17 : decode cX0_push 17 = .ok (.lastore, 1) := by decide +kernel
theorem dX0_push_18 : decode cX0_push 18 = .ok (.iload_n 1, 1) := by decide +kernel
theorem dX0_push_19 : decode cX0_push 19 = .ok (.iconst 1, 1) := by decide +kernel
theorem dX0_push_20 : decode cX0_push 20 = .ok (.iadd, 1) := by decide +kernel
theorem dX0_push_21 : decode cX0_push 21 = .ok (.ireturn, 1) := by decide +kernel
theorem dX0_isUnary_0 : decode cX0_isUnary 0 = .ok (.iload_n 0, 1) := by decide +kernel
theorem dX0_isUnary_1 : decode cX0_isUnary 1 = .ok (.sipush 280, 3) := by decide +kernel
theorem dX0_isUnary_4 : decode cX0_isUnary 4 = .ok (.if_icmp .eq 17, 3) := by decide +kernel
theorem dX0_isUnary_7 : decode cX0_isUnary 7 = .ok (.iload_n 0, 1) := by decide +kernel
theorem dX0_isUnary_8 : decode cX0_isUnary 8 = .ok (.sipush 269, 3) := by decide +kernel
theorem dX0_isUnary_11 : decode cX0_isUnary 11 = .ok (.if_icmp .eq 10, 3) := by decide +kernel
theorem dX0_isUnary_14 : decode cX0_isUnary 14 = .ok (.iload_n 0, 1) := by decide +kernel
theorem dX0_isUnary_15 : decode cX0_isUnary 15 = .ok (.sipush 272, 3) := by decide +kernel
theorem dX0_isUnary_18 : decode cX0_isUnary 18 = .ok (.if_icmp .ne 7, 3) := by decide +kernel
theorem dX0_isUnary_21 : decode cX0_isUnary 21 = .ok (.iconst 1, 1) := by decide +kernel
theorem dX0_isUnary_22 : decode cX0_isUnary 22 = .ok (.goto 4, 3) := by decide +kernel
theorem dX0_isUnary_25 : decode cX0_isUnary 25 = .ok (.iconst 0, 1) := by decide +kernel
theorem dX0_isUnary_26 : decode cX0_isUnary 26 = .ok (.ireturn, 1) := by decide +kernel
theorem dX0_unary_0 : decode cX0_unary 0 = .ok (.iload_n 0, 1) := by decide +kernel
theorem dX0_unary_1 : decode cX0_unary 1 = .ok (.sipush 280, 3) := by decide +kernel
theorem dX0_unary_4 : decode cX0_unary 4 = .ok (.if_icmp .ne 6, 3) := by decide +kernel
theorem dX0_unary_7 : decode cX0_unary 7 = .ok (.lload_n 1, 1) := by decide +kernel
theorem dX0_unary_8 : decode cX0_unary 8 = .ok (.lneg, 1) := by decide +kernel
theorem dX0_unary_9 : decode cX0_unary 9 = .ok (.lreturn, 1) := by decide +kernel
theorem dX0_unary_10 : decode cX0_unary 10 = .ok (.iload_n 0, 1) := by decide +kernel
theorem dX0_unary_11 : decode cX0_unary 11 = .ok (.sipush 269, 3) := by decide +kernel
theorem dX0_unary_14 : decode cX0_unary 14 = .ok (.if_icmp .ne 15, 3) := by decide +kernel
theorem dX0_unary_17 : decode cX0_unary 17 = .ok (.lload_n 1, 1) := by decide +kernel
theorem dX0_unary_18 : decode cX0_unary 18 = .ok (.lconst 0, 1) := by decide +kernel
theorem dX0_unary_19 : decode cX0_unary 19 = .ok (.lcmp, 1) := by decide +kernel
theorem dX0_unary_20 : decode cX0_unary 20 = .ok (.ifCond .ne 7, 3) := by decide +kernel
theorem dX0_unary_23 : decode cX0_unary 23 = .ok (.lconst 1, 1) := by decide +kernel
theorem dX0_unary_24 : decode cX0_unary 24 = .ok (.goto 4, 3) := by decide +kernel
theorem dX0_unary_27 : decode cX0_unary 27 = .ok (.lconst 0, 1) := by decide +kernel
theorem dX0_unary_28 : decode cX0_unary 28 = .ok (.lreturn, 1) := by decide +kernel
theorem dX0_unary_29 : decode cX0_unary 29 = .ok (.lload_n 1, 1) := by decide +kernel
theorem dX0_unary_30 : decode cX0_unary 30 = .ok (.invokestatic 55, 3) := by decide +kernel
theorem dX0_unary_33 : decode cX0_unary 33 = .ok (.lreturn, 1) := by decide +kernel
theorem dX0_binary_0 : decode cX0_binary 0 = .ok (.iload_n 0, 1) := by decide +kernel
theorem dX0_binary_1 : decode cX0_binary 1 = .ok (.lookupswitch 171 #[(37, 109), (42, 91), (43, 83), (45, 87), (47, 95), (267, 135), (268, 153), (270, 123), (271, 129)], 83) := by decide +kernel
theorem dX0_binary_84 : decode cX0_binary 84 = .ok (.lload_n 1, 1) := by decide +kernel
theorem dX0_binary_85 : decode cX0_binary 85 = .ok (.lload_n 3, 1) := by decide +kernel
theorem dX0_binary_86 : decode cX0_binary 86 = .ok (.ladd, 1) := by decide +kernel
theorem dX0_binary_87 : decode cX0_binary 87 = .ok (.lreturn, 1) := by decide +kernel
theorem dX0_binary_88 : decode cX0_binary 88 = .ok (.lload_n 1, 1) := by decide +kernel
theorem dX0_binary_89 : decode cX0_binary 89 = .ok (.lload_n 3, 1) := by decide +kernel
theorem dX0_binary_90 : decode cX0_binary 90 = .ok (.lsub, 1) := by decide +kernel
theorem dX0_binary_91 : decode cX0_binary 91 = .ok (.lreturn, 1) := by decide +kernel
theorem dX0_binary_92 : decode cX0_binary 92 = .ok (.lload_n 1, 1) := by decide +kernel
theorem dX0_binary_93 : decode cX0_binary 93 = .ok (.lload_n 3, 1) := by decide +kernel
theorem dX0_binary_94 : decode cX0_binary 94 = .ok (.lmul, 1) := by decide +kernel
theorem dX0_binary_95 : decode cX0_binary 95 = .ok (.lreturn, 1) := by decide +kernel
theorem dX0_binary_96 : decode cX0_binary 96 = .ok (.lload_n 3, 1) := by decide +kernel
theorem dX0_binary_97 : decode cX0_binary 97 = .ok (.lconst 0, 1) := by decide +kernel
theorem dX0_binary_98 : decode cX0_binary 98 = .ok (.lcmp, 1) := by decide +kernel
theorem dX0_binary_99 : decode cX0_binary 99 = .ok (.ifCond .ne 7, 3) := by decide +kernel
theorem dX0_binary_102 : decode cX0_binary 102 = .ok (.lconst 0, 1) := by decide +kernel
theorem dX0_binary_103 : decode cX0_binary 103 = .ok (.goto 6, 3) := by decide +kernel
theorem dX0_binary_106 : decode cX0_binary 106 = .ok (.lload_n 1, 1) := by decide +kernel
theorem dX0_binary_107 : decode cX0_binary 107 = .ok (.lload_n 3, 1) := by decide +kernel
theorem dX0_binary_108 : decode cX0_binary 108 = .ok (.ldiv, 1) := by decide +kernel
theorem dX0_binary_109 : decode cX0_binary 109 = .ok (.lreturn, 1) := by decide +kernel
theorem dX0_binary_110 : decode cX0_binary 110 = .ok (.lload_n 3, 1) := by decide +kernel
theorem dX0_binary_111 : decode cX0_binary 111 = .ok (.lconst 0, 1) := by decide +kernel
theorem dX0_binary_112 : decode cX0_binary 112 = .ok (.lcmp, 1) := by decide +kernel
theorem dX0_binary_113 : decode cX0_binary 113 = .ok (.ifCond .ne 7, 3) := by decide +kernel
theorem dX0_binary_116 : decode cX0_binary 116 = .ok (.lconst 0, 1) := by decide +kernel
theorem dX0_binary_117 : decode cX0_binary 117 = .ok (.goto 6, 3) := by decide +kernel
theorem dX0_binary_120 : decode cX0_binary 120 = .ok (.lload_n 1, 1) := by decide +kernel
theorem dX0_binary_121 : decode cX0_binary 121 = .ok (.lload_n 3, 1) := by decide +kernel
theorem dX0_binary_122 : decode cX0_binary 122 = .ok (.lrem, 1) := by decide +kernel
theorem dX0_binary_123 : decode cX0_binary 123 = .ok (.lreturn, 1) := by decide +kernel
theorem dX0_binary_124 : decode cX0_binary 124 = .ok (.lload_n 1, 1) := by decide +kernel
theorem dX0_binary_125 : decode cX0_binary 125 = .ok (.lload_n 3, 1) := by decide +kernel
theorem dX0_binary_126 : decode cX0_binary 126 = .ok (.invokestatic 61, 3) := by decide +kernel
theorem dX0_binary_129 : decode cX0_binary 129 = .ok (.lreturn, 1) := by decide +kernel
theorem dX0_binary_130 : decode cX0_binary 130 = .ok (.lload_n 1, 1) := by decide +kernel
theorem dX0_binary_131 : decode cX0_binary 131 = .ok (.lload_n 3, 1) := by decide +kernel
theorem dX0_binary_132 : decode cX0_binary 132 = .ok (.invokestatic 65, 3) := by decide +kernel
theorem dX0_binary_135 : decode cX0_binary 135 = .ok (.lreturn, 1) := by decide +kernel
theorem dX0_binary_136 : decode cX0_binary 136 = .ok (.lload_n 1, 1) := by decide +kernel
theorem dX0_binary_137 : decode cX0_binary 137 = .ok (.lconst 0, 1) := by decide +kernel
theorem dX0_binary_138 : decode cX0_binary 138 = .ok (.lcmp, 1) := by decide +kernel
theorem dX0_binary_139 : decode cX0_binary 139 = .ok (.ifCond .eq 13, 3) := by decide +kernel
theorem dX0_binary_142 : decode cX0_binary 142 = .ok (.lload_n 3, 1) := by decide +kernel
theorem dX0_binary_143 : decode cX0_binary 143 = .ok (.lconst 0, 1) := by decide +kernel
theorem dX0_binary_144 : decode cX0_binary 144 = .ok (.lcmp, 1) := by decide +kernel
theorem dX0_binary_145 : decode cX0_binary 145 = .ok (.ifCond .eq 7, 3) := by decide +kernel
theorem dX0_binary_148 : decode cX0_binary 148 = .ok (.lconst 1, 1) := by decide +kernel
theorem dX0_binary_149 : decode cX0_binary 149 = .ok (.goto 4, 3) := by decide +kernel
theorem dX0_binary_152 : decode cX0_binary 152 = .ok (.lconst 0, 1) := by decide +kernel
theorem dX0_binary_153 : decode cX0_binary 153 = .ok (.lreturn, 1) := by decide +kernel
theorem dX0_binary_154 : decode cX0_binary 154 = .ok (.lload_n 1, 1) := by decide +kernel
theorem dX0_binary_155 : decode cX0_binary 155 = .ok (.lconst 0, 1) := by decide +kernel
theorem dX0_binary_156 : decode cX0_binary 156 = .ok (.lcmp, 1) := by decide +kernel
theorem dX0_binary_157 : decode cX0_binary 157 = .ok (.ifCond .ne 9, 3) := by decide +kernel
theorem dX0_binary_160 : decode cX0_binary 160 = .ok (.lload_n 3, 1) := by decide +kernel
theorem dX0_binary_161 : decode cX0_binary 161 = .ok (.lconst 0, 1) := by decide +kernel
theorem dX0_binary_162 : decode cX0_binary 162 = .ok (.lcmp, 1) := by decide +kernel
theorem dX0_binary_163 : decode cX0_binary 163 = .ok (.ifCond .eq 7, 3) := by decide +kernel
theorem dX0_binary_166 : decode cX0_binary 166 = .ok (.lconst 1, 1) := by decide +kernel
theorem dX0_binary_167 : decode cX0_binary 167 = .ok (.goto 4, 3) := by decide +kernel
theorem dX0_binary_170 : decode cX0_binary 170 = .ok (.lconst 0, 1) := by decide +kernel
theorem dX0_binary_171 : decode cX0_binary 171 = .ok (.lreturn, 1) := by decide +kernel
theorem dX0_binary_172 : decode cX0_binary 172 = .ok (.iload_n 0, 1) := by decide +kernel
theorem dX0_binary_173 : decode cX0_binary 173 = .ok (.lload_n 1, 1) := by decide +kernel
theorem dX0_binary_174 : decode cX0_binary 174 = .ok (.lload_n 3, 1) := by decide +kernel
theorem dX0_binary_175 : decode cX0_binary 175 = .ok (.invokestatic 68, 3) := by decide +kernel
theorem dX0_binary_178 : decode cX0_binary 178 = .ok (.ifCond .eq 7, 3) := by decide +kernel
theorem dX0_binary_181 : decode cX0_binary 181 = .ok (.lconst 1, 1) := by decide +kernel
theorem dX0_binary_182 : decode cX0_binary 182 = .ok (.goto 4, 3) := by decide +kernel
theorem dX0_binary_185 : decode cX0_binary 185 = .ok (.lconst 0, 1) := by decide +kernel
theorem dX0_binary_186 : decode cX0_binary 186 = .ok (.lreturn, 1) := by decide +kernel
theorem dX0_isRelated_0 : decode cX0_isRelated 0 = .ok (.iload_n 0, 1) := by decide +kernel
theorem dX0_isRelated_1 : decode cX0_isRelated 1 = .ok (.lookupswitch 111 #[(60, 75), (61, 51), (62, 87), (275, 99), (277, 63)], 51) := by decide +kernel
theorem dX0_isRelated_52 : decode cX0_isRelated 52 = .ok (.lload_n 1, 1) := by decide +kernel
theorem dX0_isRelated_53 : decode cX0_isRelated 53 = .ok (.lload_n 3, 1) := by decide +kernel
theorem dX0_isRelated_54 : decode cX0_isRelated 54 = .ok (.lcmp, 1) := by decide +kernel
theorem dX0_isRelated_55 : decode cX0_isRelated 55 = .ok (.ifCond .ne 7, 3) := by decide +kernel
theorem dX0_isRelated_58 : decode cX0_isRelated 58 = .ok (.iconst 1, 1) := by decide +kernel
theorem dX0_isRelated_59 : decode cX0_isRelated 59 = .ok (.goto 4, 3) := by decide +kernel
theorem dX0_isRelated_62 : decode cX0_isRelated 62 = .ok (.iconst 0, 1) := by decide +kernel
theorem dX0_isRelated_63 : decode cX0_isRelated 63 = .ok (.ireturn, 1) := by decide +kernel
theorem dX0_isRelated_64 : decode cX0_isRelated 64 = .ok (.lload_n 1, 1) := by decide +kernel
theorem dX0_isRelated_65 : decode cX0_isRelated 65 = .ok (.lload_n 3, 1) := by decide +kernel
theorem dX0_isRelated_66 : decode cX0_isRelated 66 = .ok (.lcmp, 1) := by decide +kernel
theorem dX0_isRelated_67 : decode cX0_isRelated 67 = .ok (.ifCond .eq 7, 3) := by decide +kernel
theorem dX0_isRelated_70 : decode cX0_isRelated 70 = .ok (.iconst 1, 1) := by decide +kernel
theorem dX0_isRelated_71 : decode cX0_isRelated 71 = .ok (.goto 4, 3) := by decide +kernel
theorem dX0_isRelated_74 : decode cX0_isRelated 74 = .ok (.iconst 0, 1) := by decide +kernel
theorem dX0_isRelated_75 : decode cX0_isRelated 75 = .ok (.ireturn, 1) := by decide +kernel
theorem dX0_isRelated_76 : decode cX0_isRelated 76 = .ok (.lload_n 1, 1) := by decide +kernel
theorem dX0_isRelated_77 : decode cX0_isRelated 77 = .ok (.lload_n 3, 1) := by decide +kernel
theorem dX0_isRelated_78 : decode cX0_isRelated 78 = .ok (.lcmp, 1) := by decide +kernel
theorem dX0_isRelated_79 : decode cX0_isRelated 79 = .ok (.ifCond .ge 7, 3) := by decide +kernel
theorem dX0_isRelated_82 : decode cX0_isRelated 82 = .ok (.iconst 1, 1) := by decide +kernel
theorem dX0_isRelated_83 : decode cX0_isRelated 83 = .ok (.goto 4, 3) := by decide +kernel
theorem dX0_isRelated_86 : decode cX0_isRelated 86 = .ok (.iconst 0, 1) := by decide +kernel
theorem dX0_isRelated_87 : decode cX0_isRelated 87 = .ok (.ireturn, 1) := by decide +kernel
theorem dX0_isRelated_88 : decode cX0_isRelated 88 = .ok (.lload_n 1, 1) := by decide +kernel
theorem dX0_isRelated_89 : decode cX0_isRelated 89 = .ok (.lload_n 3, 1) := by decide +kernel
theorem dX0_isRelated_90 : decode cX0_isRelated 90 = .ok (.lcmp, 1) := by decide +kernel
theorem dX0_isRelated_91 : decode cX0_isRelated 91 = .ok (.ifCond .le 7, 3) := by decide +kernel
theorem dX0_isRelated_94 : decode cX0_isRelated 94 = .ok (.iconst 1, 1) := by decide +kernel
theorem dX0_isRelated_95 : decode cX0_isRelated 95 = .ok (.goto 4, 3) := by decide +kernel
theorem dX0_isRelated_98 : decode cX0_isRelated 98 = .ok (.iconst 0, 1) := by decide +kernel
theorem dX0_isRelated_99 : decode cX0_isRelated 99 = .ok (.ireturn, 1) := by decide +kernel
theorem dX0_isRelated_100 : decode cX0_isRelated 100 = .ok (.lload_n 1, 1) := by decide +kernel
theorem dX0_isRelated_101 : decode cX0_isRelated 101 = .ok (.lload_n 3, 1) := by decide +kernel
theorem dX0_isRelated_102 : decode cX0_isRelated 102 = .ok (.lcmp, 1) := by decide +kernel
theorem dX0_isRelated_103 : decode cX0_isRelated 103 = .ok (.ifCond .gt 7, 3) := by decide +kernel
theorem dX0_isRelated_106 : decode cX0_isRelated 106 = .ok (.iconst 1, 1) := by decide +kernel
theorem dX0_isRelated_107 : decode cX0_isRelated 107 = .ok (.goto 4, 3) := by decide +kernel
theorem dX0_isRelated_110 : decode cX0_isRelated 110 = .ok (.iconst 0, 1) := by decide +kernel
theorem dX0_isRelated_111 : decode cX0_isRelated 111 = .ok (.ireturn, 1) := by decide +kernel
theorem dX0_isRelated_112 : decode cX0_isRelated 112 = .ok (.lload_n 1, 1) := by decide +kernel
theorem dX0_isRelated_113 : decode cX0_isRelated 113 = .ok (.lload_n 3, 1) := by decide +kernel
theorem dX0_isRelated_114 : decode cX0_isRelated 114 = .ok (.lcmp, 1) := by decide +kernel
theorem dX0_isRelated_115 : decode cX0_isRelated 115 = .ok (.ifCond .lt 7, 3) := by decide +kernel
theorem dX0_isRelated_118 : decode cX0_isRelated 118 = .ok (.iconst 1, 1) := by decide +kernel
theorem dX0_isRelated_119 : decode cX0_isRelated 119 = .ok (.goto 4, 3) := by decide +kernel
theorem dX0_isRelated_122 : decode cX0_isRelated 122 = .ok (.iconst 0, 1) := by decide +kernel
theorem dX0_isRelated_123 : decode cX0_isRelated 123 = .ok (.ireturn, 1) := by decide +kernel
theorem dX1_init_0 : decode cX1_init 0 = .ok (.aload_n 0, 1) := by decide +kernel
theorem dX1_init_1 : decode cX1_init 1 = .ok (.invokespecial 3, 3) := by decide +kernel
theorem dX1_init_4 : decode cX1_init 4 = .ok (.aload_n 0, 1) := by decide +kernel
theorem dX1_init_5 : decode cX1_init 5 = .ok (.aload_n 1, 1) := by decide +kernel
theorem dX1_init_6 : decode cX1_init 6 = .ok (.putfield 9, 3) := by decide +kernel
theorem dX1_init_9 : decode cX1_init 9 = .ok (.aload_n 0, 1) := by decide +kernel
theorem dX1_init_10 : decode cX1_init 10 = .ok (.aload_n 2, 1) := by decide +kernel
theorem dX1_init_11 : decode cX1_init 11 = .ok (.putfield 15, 3) := by decide +kernel
theorem dX1_init_14 : decode cX1_init 14 = .ok (.aload_n 0, 1) := by decide +kernel
theorem dX1_init_15 : decode cX1_init 15 = .ok (.aload_n 3, 1) := by decide +kernel
theorem dX1_init_16 : decode cX1_init 16 = .ok (.putfield 19, 3) := by decide +kernel
theorem dX1_init_19 : decode cX1_init 19 = .ok (.return_, 1) := by decide +kernel
theorem dX1_readProgram_0 : decode cX1_readProgram 0 = .ok (.aload_n 0, 1) := by decide +kernel
theorem dX1_readProgram_1 : decode cX1_readProgram 1 = .ok (.iload_n 1, 1) := by decide +kernel
theorem dX1_readProgram_2 : decode cX1_readProgram 2 = .ok (.invokevirtual 23, 3) := by decide +kernel
theorem dX1_readProgram_5 : decode cX1_readProgram 5 = .ok (.iconst 0, 1) := by decide +kernel
theorem dX1_readProgram_6 : decode cX1_readProgram 6 = .ok (.istore_n 2, 1) := by decide +kernel
theorem dX1_readProgram_7 : decode cX1_readProgram 7 = .ok (.aload_n 0, 1) := by decide +kernel
theorem dX1_readProgram_8 : decode cX1_readProgram 8 = .ok (.invokevirtual 27, 3) := by decide +kernel
theorem dX1_readProgram_11 : decode cX1_readProgram 11 = .ok (.tableswitch 69 256 262 #[41, 69, 69, 48, 69, 55, 62], 41) := by decide +kernel
theorem dX1_readProgram_52 : decode cX1_readProgram 52 = .ok (.aload_n 0, 1) := by decide +kernel
theorem dX1_readProgram_53 : decode cX1_readProgram 53 = .ok (.invokevirtual 31, 3) := by decide +kernel
theorem dX1_readProgram_56 : decode cX1_readProgram 56 = .ok (.goto 33, 3) := by decide +kernel
theorem dX1_readProgram_59 : decode cX1_readProgram 59 = .ok (.aload_n 0, 1) := by decide +kernel
theorem dX1_readProgram_60 : decode cX1_readProgram 60 = .ok (.invokevirtual 34, 3) := by decide +kernel
theorem dX1_readProgram_63 : decode cX1_readProgram 63 = .ok (.goto 26, 3) := by decide +kernel
theorem dX1_readProgram_66 : decode cX1_readProgram 66 = .ok (.aload_n 0, 1) := by decide +kernel
theorem dX1_readProgram_67 : decode cX1_readProgram 67 = .ok (.invokevirtual 37, 3) := by decide +kernel
theorem dX1_readProgram_70 : decode cX1_readProgram 70 = .ok (.goto 19, 3) := by decide +kernel
theorem dX1_readProgram_73 : decode cX1_readProgram 73 = .ok (.aload_n 0, 1) := by decide +kernel
theorem dX1_readProgram_74 : decode cX1_readProgram 74 = .ok (.invokevirtual 40, 3) := by decide +kernel
theorem dX1_readProgram_77 : decode cX1_readProgram 77 = .ok (.goto 12, 3) := by decide +kernel
theorem dX1_readProgram_80 : decode cX1_readProgram 80 = .ok (.aload_n 0, 1) := by decide +kernel
theorem dX1_readProgram_81 : decode cX1_readProgram 81 = .ok (.iconst 1, 1) := by decide +kernel
theorem dX1_readProgram_82 : decode cX1_readProgram 82 = .ok (.aload_n 0, 1) := by decide +kernel
theorem dX1_readProgram_83 : decode cX1_readProgram 83 = .ok (.getfield 43, 3) := by decide +kernel
theorem dX1_readProgram_86 : decode cX1_readProgram 86 = .ok (.invokevirtual 47, 3) := by decide +kernel
theorem dX1_readProgram_89 : decode cX1_readProgram 89 = .ok (.iinc 2 1, 3) := by decide +kernel
theorem dX1_readProgram_92 : decode cX1_readProgram 92 = .ok (.iload_n 2, 1) := by decide +kernel
theorem dX1_readProgram_93 : decode cX1_readProgram 93 = .ok (.sipush 1500, 3) := by decide +kernel
theorem dX1_readProgram_96 : decode cX1_readProgram 96 = .ok (.if_icmp .ge 20, 3) := by decide +kernel
theorem dX1_readProgram_99 : decode cX1_readProgram 99 = .ok (.aload_n 0, 1) := by decide +kernel
theorem dX1_readProgram_100 : decode cX1_readProgram 100 = .ok (.getfield 51, 3) := by decide +kernel
theorem dX1_readProgram_103 : decode cX1_readProgram 103 = .ok (.ifCond .ne 13, 3) := by decide +kernel
theorem dX1_readProgram_106 : decode cX1_readProgram 106 = .ok (.aload_n 0, 1) := by decide +kernel
theorem dX1_readProgram_107 : decode cX1_readProgram 107 = .ok (.invokevirtual 27, 3) := by decide +kernel
theorem dX1_readProgram_110 : decode cX1_readProgram 110 = .ok (.sipush 278, 3) := by decide +kernel
theorem dX1_readProgram_113 : decode cX1_readProgram 113 = .ok (.if_icmp .ne (-106), 3) := by decide +kernel
theorem dX1_readProgram_116 : decode cX1_readProgram 116 = .ok (.aload_n 0, 1) := by decide +kernel
theorem dX1_readProgram_117 : decode cX1_readProgram 117 = .ok (.aload_n 0, 1) := by decide +kernel
theorem dX1_readProgram_118 : decode cX1_readProgram 118 = .ok (.getfield 19, 3) := by decide +kernel
theorem dX1_readProgram_121 : decode cX1_readProgram 121 = .ok (.getfield 54, 3) := by decide +kernel
theorem dX1_readProgram_124 : decode cX1_readProgram 124 = .ok (.ifCond .le 17, 3) := by decide +kernel
theorem dX1_readProgram_127 : decode cX1_readProgram 127 = .ok (.aload_n 0, 1) := by decide +kernel
theorem dX1_readProgram_128 : decode cX1_readProgram 128 = .ok (.getfield 19, 3) := by decide +kernel
theorem dX1_readProgram_131 : decode cX1_readProgram 131 = .ok (.getfield 59, 3) := by decide +kernel
theorem dX1_readProgram_134 : decode cX1_readProgram 134 = .ok (.ifCond .le 7, 3) := by decide +kernel
theorem dX1_readProgram_137 : decode cX1_readProgram 137 = .ok (.iconst 1, 1) := by decide +kernel
theorem dX1_readProgram_138 : decode cX1_readProgram 138 = .ok (.goto 4, 3) := by decide +kernel
theorem dX1_readProgram_141 : decode cX1_readProgram 141 = .ok (.iconst 0, 1) := by decide +kernel
theorem dX1_readProgram_142 : decode cX1_readProgram 142 = .ok (.bipush 7, 2) := by decide +kernel
theorem dX1_readProgram_144 : decode cX1_readProgram 144 = .ok (.aload_n 0, 1) := by decide +kernel
theorem dX1_readProgram_145 : decode cX1_readProgram 145 = .ok (.getfield 43, 3) := by decide +kernel
theorem dX1_readProgram_148 : decode cX1_readProgram 148 = .ok (.invokevirtual 62, 3) := by decide +kernel
theorem dX1_readProgram_151 : decode cX1_readProgram 151 = .ok (.return_, 1) := by decide +kernel
theorem dX1_begin_0 : decode cX1_begin 0 = .ok (.aload_n 0, 1) := by decide +kernel
theorem dX1_begin_1 : decode cX1_begin 1 = .ok (.iload_n 1, 1) := by decide +kernel
theorem dX1_begin_2 : decode cX1_begin 2 = .ok (.putfield 69, 3) := by decide +kernel
theorem dX1_begin_5 : decode cX1_begin 5 = .ok (.aload_n 0, 1) := by decide +kernel
theorem dX1_begin_6 : decode cX1_begin 6 = .ok (.iconst 0, 1) := by decide +kernel
theorem dX1_begin_7 : decode cX1_begin 7 = .ok (.putfield 43, 3) := by decide +kernel
theorem dX1_begin_10 : decode cX1_begin 10 = .ok (.aload_n 0, 1) := by decide +kernel
theorem dX1_begin_11 : decode cX1_begin 11 = .ok (.aload_n 0, 1) := by decide +kernel
theorem dX1_begin_12 : decode cX1_begin 12 = .ok (.getfield 9, 3) := by decide +kernel
theorem dX1_begin_15 : decode cX1_begin 15 = .ok (.getfield 73, 3) := by decide +kernel
theorem dX1_begin_18 : decode cX1_begin 18 = .ok (.putfield 78, 3) := by decide +kernel
theorem dX1_begin_21 : decode cX1_begin 21 = .ok (.aload_n 0, 1) := by decide +kernel
theorem dX1_begin_22 : decode cX1_begin 22 = .ok (.iconst 0, 1) := by decide +kernel
theorem dX1_begin_23 : decode cX1_begin 23 = .ok (.putfield 51, 3) := by decide +kernel
theorem dX1_begin_26 : decode cX1_begin 26 = .ok (.aload_n 0, 1) := by decide +kernel
theorem dX1_begin_27 : decode cX1_begin 27 = .ok (.iconst (-1), 1) := by decide +kernel
theorem dX1_begin_28 : decode cX1_begin 28 = .ok (.putfield 81, 3) := by decide +kernel
theorem dX1_begin_31 : decode cX1_begin 31 = .ok (.aload_n 0, 1) := by decide +kernel
theorem dX1_begin_32 : decode cX1_begin 32 = .ok (.getfield 15, 3) := by decide +kernel
theorem dX1_begin_35 : decode cX1_begin 35 = .ok (.invokevirtual 84, 3) := by decide +kernel
theorem dX1_begin_38 : decode cX1_begin 38 = .ok (.return_, 1) := by decide +kernel
theorem dX1_readVariable_0 : decode cX1_readVariable 0 = .ok (.aload_n 0, 1) := by decide +kernel
theorem dX1_readVariable_1 : decode cX1_readVariable 1 = .ok (.sipush 256, 3) := by decide +kernel
theorem dX1_readVariable_4 : decode cX1_readVariable 4 = .ok (.invokevirtual 89, 3) := by decide +kernel
theorem dX1_readVariable_7 : decode cX1_readVariable 7 = .ok (.istore_n 1, 1) := by decide +kernel
theorem dX1_readVariable_8 : decode cX1_readVariable 8 = .ok (.aload_n 0, 1) := by decide +kernel
theorem dX1_readVariable_9 : decode cX1_readVariable 9 = .ok (.sipush 273, 3) := by decide +kernel
theorem dX1_readVariable_12 : decode cX1_readVariable 12 = .ok (.invokevirtual 89, 3) := by decide +kernel
theorem dX1_readVariable_15 : decode cX1_readVariable 15 = .ok (.istore_n 2, 1) := by decide +kernel
theorem dX1_readVariable_16 : decode cX1_readVariable 16 = .ok (.aload_n 0, 1) := by decide +kernel
theorem dX1_readVariable_17 : decode cX1_readVariable 17 = .ok (.bipush 61, 2) := by decide +kernel
theorem dX1_readVariable_19 : decode cX1_readVariable 19 = .ok (.invokevirtual 89, 3) := by decide +kernel
theorem dX1_readVariable_22 : decode cX1_readVariable 22 = .ok (.pop, 1) := by decide +kernel
theorem dX1_readVariable_23 : decode cX1_readVariable 23 = .ok (.aload_n 0, 1) := by decide +kernel
theorem dX1_readVariable_24 : decode cX1_readVariable 24 = .ok (.invokevirtual 93, 3) := by decide +kernel
theorem dX1_readVariable_27 : decode cX1_readVariable 27 = .ok (.istore_n 3, 1) := by decide +kernel
theorem dX1_readVariable_28 : decode cX1_readVariable 28 = .ok (.aload_n 0, 1) := by decide +kernel
theorem dX1_readVariable_29 : decode cX1_readVariable 29 = .ok (.sipush 257, 3) := by decide +kernel
theorem dX1_readVariable_32 : decode cX1_readVariable 32 = .ok (.invokevirtual 89, 3) := by decide +kernel
theorem dX1_readVariable_35 : decode cX1_readVariable 35 = .ok (.pop, 1) := by decide +kernel
theorem dX1_readVariable_36 : decode cX1_readVariable 36 = .ok (.aload_n 0, 1) := by decide +kernel
theorem dX1_readVariable_37 : decode cX1_readVariable 37 = .ok (.invokevirtual 93, 3) := by decide +kernel
theorem dX1_readVariable_40 : decode cX1_readVariable 40 = .ok (.istore 4, 2) := by decide +kernel
theorem dX1_readVariable_42 : decode cX1_readVariable 42 = .ok (.aload_n 0, 1) := by decide +kernel
theorem dX1_readVariable_43 : decode cX1_readVariable 43 = .ok (.sipush 258, 3) := by decide +kernel
theorem dX1_readVariable_46 : decode cX1_readVariable 46 = .ok (.invokevirtual 89, 3) := by decide +kernel
theorem dX1_readVariable_49 : decode cX1_readVariable 49 = .ok (.pop, 1) := by decide +kernel
theorem dX1_readVariable_50 : decode cX1_readVariable 50 = .ok (.aload_n 0, 1) := by decide +kernel
theorem dX1_readVariable_51 : decode cX1_readVariable 51 = .ok (.invokevirtual 93, 3) := by decide +kernel
theorem dX1_readVariable_54 : decode cX1_readVariable 54 = .ok (.istore 5, 2) := by decide +kernel
theorem dX1_readVariable_56 : decode cX1_readVariable 56 = .ok (.aload_n 0, 1) := by decide +kernel
theorem dX1_readVariable_57 : decode cX1_readVariable 57 = .ok (.bipush 59, 2) := by decide +kernel
theorem dX1_readVariable_59 : decode cX1_readVariable 59 = .ok (.invokevirtual 89, 3) := by decide +kernel
theorem dX1_readVariable_62 : decode cX1_readVariable 62 = .ok (.pop, 1) := by decide +kernel
theorem dX1_readVariable_63 : decode cX1_readVariable 63 = .ok (.aload_n 0, 1) := by decide +kernel
theorem dX1_readVariable_64 : decode cX1_readVariable 64 = .ok (.aload_n 0, 1) := by decide +kernel
theorem dX1_readVariable_65 : decode cX1_readVariable 65 = .ok (.getfield 19, 3) := by decide +kernel
theorem dX1_readVariable_68 : decode cX1_readVariable 68 = .ok (.getfield 54, 3) := by decide +kernel
theorem dX1_readVariable_71 : decode cX1_readVariable 71 = .ok (.bipush 6, 2) := by decide +kernel
theorem dX1_readVariable_73 : decode cX1_readVariable 73 = .ok (.if_icmp .ge 7, 3) := by decide +kernel
theorem dX1_readVariable_76 : decode cX1_readVariable 76 = .ok (.iconst 1, 1) := by decide +kernel
theorem dX1_readVariable_77 : decode cX1_readVariable 77 = .ok (.goto 4, 3) := by decide +kernel
theorem dX1_readVariable_80 : decode cX1_readVariable 80 = .ok (.iconst 0, 1) := by decide +kernel
theorem dX1_readVariable_81 : decode cX1_readVariable 81 = .ok (.iconst 4, 1) := by decide +kernel
theorem dX1_readVariable_82 : decode cX1_readVariable 82 = .ok (.iload_n 1, 1) := by decide +kernel
theorem dX1_readVariable_83 : decode cX1_readVariable 83 = .ok (.invokevirtual 62, 3) := by decide +kernel
theorem dX1_readVariable_86 : decode cX1_readVariable 86 = .ok (.aload_n 0, 1) := by decide +kernel
theorem dX1_readVariable_87 : decode cX1_readVariable 87 = .ok (.iload_n 2, 1) := by decide +kernel
theorem dX1_readVariable_88 : decode cX1_readVariable 88 = .ok (.invokevirtual 96, 3) := by decide +kernel
theorem dX1_readVariable_91 : decode cX1_readVariable 91 = .ok (.aload_n 0, 1) := by decide +kernel
theorem dX1_readVariable_92 : decode cX1_readVariable 92 = .ok (.iload 4, 2) := by decide +kernel
theorem dX1_readVariable_94 : decode cX1_readVariable 94 = .ok (.invokevirtual 100, 3) := by decide +kernel
theorem dX1_readVariable_97 : decode cX1_readVariable 97 = .ok (.istore 6, 2) := by decide +kernel
theorem dX1_readVariable_99 : decode cX1_readVariable 99 = .ok (.aload_n 0, 1) := by decide +kernel
theorem dX1_readVariable_100 : decode cX1_readVariable 100 = .ok (.iload 5, 2) := by decide +kernel
theorem dX1_readVariable_102 : decode cX1_readVariable 102 = .ok (.invokevirtual 100, 3) := by decide +kernel
theorem dX1_readVariable_105 : decode cX1_readVariable 105 = .ok (.istore 7, 2) := by decide +kernel
theorem dX1_readVariable_107 : decode cX1_readVariable 107 = .ok (.aload_n 0, 1) := by decide +kernel
theorem dX1_readVariable_108 : decode cX1_readVariable 108 = .ok (.iload_n 3, 1) := by decide +kernel
theorem dX1_readVariable_109 : decode cX1_readVariable 109 = .ok (.invokevirtual 100, 3) := by decide +kernel
theorem dX1_readVariable_112 : decode cX1_readVariable 112 = .ok (.istore 8, 2) := by decide +kernel
theorem dX1_readVariable_114 : decode cX1_readVariable 114 = .ok (.aload_n 0, 1) := by decide +kernel
theorem dX1_readVariable_115 : decode cX1_readVariable 115 = .ok (.iload 6, 2) := by decide +kernel
theorem dX1_readVariable_117 : decode cX1_readVariable 117 = .ok (.bipush (-99), 2) := by decide +kernel
theorem dX1_readVariable_119 : decode cX1_readVariable 119 = .ok (.if_icmp .lt 14, 3) := by decide +kernel
theorem dX1_readVariable_122 : decode cX1_readVariable 122 = .ok (.iload 6, 2) := by decide +kernel
theorem dX1_readVariable_124 : decode cX1_readVariable 124 = .ok (.bipush 99, 2) := by decide +kernel
theorem dX1_readVariable_126 : decode cX1_readVariable 126 = .ok (.if_icmp .gt 7, 3) := by decide +kernel
theorem dX1_readVariable_129 : decode cX1_readVariable 129 = .ok (.iconst 1, 1) := by decide +kernel
theorem dX1_readVariable_130 : decode cX1_readVariable 130 = .ok (.goto 4, 3) := by decide +kernel
theorem dX1_readVariable_133 : decode cX1_readVariable 133 = .ok (.iconst 0, 1) := by decide +kernel
theorem dX1_readVariable_134 : decode cX1_readVariable 134 = .ok (.iconst 5, 1) := by decide +kernel
theorem dX1_readVariable_135 : decode cX1_readVariable 135 = .ok (.iload 4, 2) := by decide +kernel
theorem dX1_readVariable_137 : decode cX1_readVariable 137 = .ok (.invokevirtual 62, 3) := by decide +kernel
theorem dX1_readVariable_140 : decode cX1_readVariable 140 = .ok (.aload_n 0, 1) := by decide +kernel
theorem dX1_readVariable_141 : decode cX1_readVariable 141 = .ok (.iload 7, 2) := by decide +kernel
theorem dX1_readVariable_143 : decode cX1_readVariable 143 = .ok (.bipush (-99), 2) := by decide +kernel
theorem dX1_readVariable_145 : decode cX1_readVariable 145 = .ok (.if_icmp .lt 14, 3) := by decide +kernel
theorem dX1_readVariable_148 : decode cX1_readVariable 148 = .ok (.iload 7, 2) := by decide +kernel
theorem dX1_readVariable_150 : decode cX1_readVariable 150 = .ok (.bipush 99, 2) := by decide +kernel
theorem dX1_readVariable_152 : decode cX1_readVariable 152 = .ok (.if_icmp .gt 7, 3) := by decide +kernel
theorem dX1_readVariable_155 : decode cX1_readVariable 155 = .ok (.iconst 1, 1) := by decide +kernel
theorem dX1_readVariable_156 : decode cX1_readVariable 156 = .ok (.goto 4, 3) := by decide +kernel
theorem dX1_readVariable_159 : decode cX1_readVariable 159 = .ok (.iconst 0, 1) := by decide +kernel
theorem dX1_readVariable_160 : decode cX1_readVariable 160 = .ok (.iconst 5, 1) := by decide +kernel
theorem dX1_readVariable_161 : decode cX1_readVariable 161 = .ok (.iload 5, 2) := by decide +kernel
theorem dX1_readVariable_163 : decode cX1_readVariable 163 = .ok (.invokevirtual 62, 3) := by decide +kernel
theorem dX1_readVariable_166 : decode cX1_readVariable 166 = .ok (.aload_n 0, 1) := by decide +kernel
theorem dX1_readVariable_167 : decode cX1_readVariable 167 = .ok (.iload 6, 2) := by decide +kernel
theorem dX1_readVariable_169 : decode cX1_readVariable 169 = .ok (.iload 7, 2) := by decide +kernel
theorem dX1_readVariable_171 : decode cX1_readVariable 171 = .ok (.if_icmp .gt 7, 3) := by decide +kernel
theorem dX1_readVariable_174 : decode cX1_readVariable 174 = .ok (.iconst 1, 1) := by decide +kernel
theorem dX1_readVariable_175 : decode cX1_readVariable 175 = .ok (.goto 4, 3) := by decide +kernel
theorem dX1_readVariable_178 : decode cX1_readVariable 178 = .ok (.iconst 0, 1) := by decide +kernel
theorem dX1_readVariable_179 : decode cX1_readVariable 179 = .ok (.iconst 5, 1) := by decide +kernel
theorem dX1_readVariable_180 : decode cX1_readVariable 180 = .ok (.iload 5, 2) := by decide +kernel
theorem dX1_readVariable_182 : decode cX1_readVariable 182 = .ok (.invokevirtual 62, 3) := by decide +kernel
theorem dX1_readVariable_185 : decode cX1_readVariable 185 = .ok (.aload_n 0, 1) := by decide +kernel
theorem dX1_readVariable_186 : decode cX1_readVariable 186 = .ok (.iload 6, 2) := by decide +kernel
theorem dX1_readVariable_188 : decode cX1_readVariable 188 = .ok (.iload 8, 2) := by decide +kernel
theorem dX1_readVariable_190 : decode cX1_readVariable 190 = .ok (.if_icmp .gt 14, 3) := by decide +kernel
theorem dX1_readVariable_193 : decode cX1_readVariable 193 = .ok (.iload 8, 2) := by decide +kernel
theorem dX1_readVariable_195 : decode cX1_readVariable 195 = .ok (.iload 7, 2) := by decide +kernel
theorem dX1_readVariable_197 : decode cX1_readVariable 197 = .ok (.if_icmp .gt 7, 3) := by decide +kernel
theorem dX1_readVariable_200 : decode cX1_readVariable 200 = .ok (.iconst 1, 1) := by decide +kernel
theorem dX1_readVariable_201 : decode cX1_readVariable 201 = .ok (.goto 4, 3) := by decide +kernel
theorem dX1_readVariable_204 : decode cX1_readVariable 204 = .ok (.iconst 0, 1) := by decide +kernel
theorem dX1_readVariable_205 : decode cX1_readVariable 205 = .ok (.iconst 5, 1) := by decide +kernel
theorem dX1_readVariable_206 : decode cX1_readVariable 206 = .ok (.iload_n 3, 1) := by decide +kernel
theorem dX1_readVariable_207 : decode cX1_readVariable 207 = .ok (.invokevirtual 62, 3) := by decide +kernel
theorem dX1_readVariable_210 : decode cX1_readVariable 210 = .ok (.aload_n 0, 1) := by decide +kernel
theorem dX1_readVariable_211 : decode cX1_readVariable 211 = .ok (.invokevirtual 103, 3) := by decide +kernel
theorem dX1_readVariable_214 : decode cX1_readVariable 214 = .ok (.ifCond .eq 24, 3) := by decide +kernel
theorem dX1_readVariable_217 : decode cX1_readVariable 217 = .ok (.aload_n 0, 1) := by decide +kernel
theorem dX1_readVariable_218 : decode cX1_readVariable 218 = .ok (.getfield 19, 3) := by decide +kernel
theorem dX1_readVariable_221 : decode cX1_readVariable 221 = .ok (.aload_n 0, 1) := by decide +kernel
theorem dX1_readVariable_222 : decode cX1_readVariable 222 = .ok (.getfield 9, 3) := by decide +kernel
theorem dX1_readVariable_225 : decode cX1_readVariable 225 = .ok (.iload_n 2, 1) := by decide +kernel
theorem dX1_readVariable_226 : decode cX1_readVariable 226 = .ok (.invokevirtual 107, 3) := by decide +kernel
theorem dX1_readVariable_229 : decode cX1_readVariable 229 = .ok (.iload 8, 2) := by decide +kernel
theorem dX1_readVariable_231 : decode cX1_readVariable 231 = .ok (.iload 6, 2) := by decide +kernel
theorem dX1_readVariable_233 : decode cX1_readVariable 233 = .ok (.iload 7, 2) := by decide +kernel
theorem dX1_readVariable_235 : decode cX1_readVariable 235 = .ok (.invokevirtual 111, 3) := by decide +kernel
theorem dX1_readVariable_238 : decode cX1_readVariable 238 = .ok (.return_, 1) := by decide +kernel
theorem dX1_readGain_0 : decode cX1_readGain 0 = .ok (.aload_n 0, 1) := by decide +kernel
theorem dX1_readGain_1 : decode cX1_readGain 1 = .ok (.aload_n 0, 1) := by decide +kernel
theorem dX1_readGain_2 : decode cX1_readGain 2 = .ok (.getfield 19, 3) := by decide +kernel
theorem dX1_readGain_5 : decode cX1_readGain 5 = .ok (.getfield 115, 3) := by decide +kernel
theorem dX1_readGain_8 : decode cX1_readGain 8 = .ok (.iconst 3, 1) := by decide +kernel
theorem dX1_readGain_9 : decode cX1_readGain 9 = .ok (.if_icmp .ge 7, 3) := by decide +kernel
theorem dX1_readGain_12 : decode cX1_readGain 12 = .ok (.iconst 1, 1) := by decide +kernel
theorem dX1_readGain_13 : decode cX1_readGain 13 = .ok (.goto 4, 3) := by decide +kernel
theorem dX1_readGain_16 : decode cX1_readGain 16 = .ok (.iconst 0, 1) := by decide +kernel
theorem dX1_readGain_17 : decode cX1_readGain 17 = .ok (.iconst 4, 1) := by decide +kernel
theorem dX1_readGain_18 : decode cX1_readGain 18 = .ok (.aload_n 0, 1) := by decide +kernel
theorem dX1_readGain_19 : decode cX1_readGain 19 = .ok (.getfield 43, 3) := by decide +kernel
theorem dX1_readGain_22 : decode cX1_readGain 22 = .ok (.invokevirtual 62, 3) := by decide +kernel
theorem dX1_readGain_25 : decode cX1_readGain 25 = .ok (.aload_n 0, 1) := by decide +kernel
theorem dX1_readGain_26 : decode cX1_readGain 26 = .ok (.sipush 259, 3) := by decide +kernel
theorem dX1_readGain_29 : decode cX1_readGain 29 = .ok (.invokevirtual 89, 3) := by decide +kernel
theorem dX1_readGain_32 : decode cX1_readGain 32 = .ok (.pop, 1) := by decide +kernel
theorem dX1_readGain_33 : decode cX1_readGain 33 = .ok (.aload_n 0, 1) := by decide +kernel
theorem dX1_readGain_34 : decode cX1_readGain 34 = .ok (.sipush 273, 3) := by decide +kernel
theorem dX1_readGain_37 : decode cX1_readGain 37 = .ok (.invokevirtual 89, 3) := by decide +kernel
theorem dX1_readGain_40 : decode cX1_readGain 40 = .ok (.istore_n 1, 1) := by decide +kernel
theorem dX1_readGain_41 : decode cX1_readGain 41 = .ok (.aload_n 0, 1) := by decide +kernel
theorem dX1_readGain_42 : decode cX1_readGain 42 = .ok (.iload_n 1, 1) := by decide +kernel
theorem dX1_readGain_43 : decode cX1_readGain 43 = .ok (.invokevirtual 96, 3) := by decide +kernel
theorem dX1_readGain_46 : decode cX1_readGain 46 = .ok (.iconst (-1), 1) := by decide +kernel
theorem dX1_readGain_47 : decode cX1_readGain 47 = .ok (.istore_n 2, 1) := by decide +kernel
theorem dX1_readGain_48 : decode cX1_readGain 48 = .ok (.aload_n 0, 1) := by decide +kernel
theorem dX1_readGain_49 : decode cX1_readGain 49 = .ok (.sipush 260, 3) := by decide +kernel
theorem dX1_readGain_52 : decode cX1_readGain 52 = .ok (.invokevirtual 118, 3) := by decide +kernel
theorem dX1_readGain_55 : decode cX1_readGain 55 = .ok (.ifCond .eq 39, 3) := by decide +kernel
theorem dX1_readGain_58 : decode cX1_readGain 58 = .ok (.aload_n 0, 1) := by decide +kernel
theorem dX1_readGain_59 : decode cX1_readGain 59 = .ok (.sipush 273, 3) := by decide +kernel
theorem dX1_readGain_62 : decode cX1_readGain 62 = .ok (.invokevirtual 89, 3) := by decide +kernel
theorem dX1_readGain_65 : decode cX1_readGain 65 = .ok (.istore_n 3, 1) := by decide +kernel
theorem dX1_readGain_66 : decode cX1_readGain 66 = .ok (.aload_n 0, 1) := by decide +kernel
theorem dX1_readGain_67 : decode cX1_readGain 67 = .ok (.aload_n 0, 1) := by decide +kernel
theorem dX1_readGain_68 : decode cX1_readGain 68 = .ok (.getfield 9, 3) := by decide +kernel
theorem dX1_readGain_71 : decode cX1_readGain 71 = .ok (.iload_n 3, 1) := by decide +kernel
theorem dX1_readGain_72 : decode cX1_readGain 72 = .ok (.invokevirtual 107, 3) := by decide +kernel
theorem dX1_readGain_75 : decode cX1_readGain 75 = .ok (.invokevirtual 122, 3) := by decide +kernel
theorem dX1_readGain_78 : decode cX1_readGain 78 = .ok (.istore_n 2, 1) := by decide +kernel
theorem dX1_readGain_79 : decode cX1_readGain 79 = .ok (.aload_n 0, 1) := by decide +kernel
theorem dX1_readGain_80 : decode cX1_readGain 80 = .ok (.iload_n 2, 1) := by decide +kernel
theorem dX1_readGain_81 : decode cX1_readGain 81 = .ok (.ifCond .lt 7, 3) := by decide +kernel
theorem dX1_readGain_84 : decode cX1_readGain 84 = .ok (.iconst 1, 1) := by decide +kernel
theorem dX1_readGain_85 : decode cX1_readGain 85 = .ok (.goto 4, 3) := by decide +kernel
theorem dX1_readGain_88 : decode cX1_readGain 88 = .ok (.iconst 0, 1) := by decide +kernel
theorem dX1_readGain_89 : decode cX1_readGain 89 = .ok (.iconst 2, 1) := by decide +kernel
theorem dX1_readGain_90 : decode cX1_readGain 90 = .ok (.iload_n 3, 1) := by decide +kernel
theorem dX1_readGain_91 : decode cX1_readGain 91 = .ok (.invokevirtual 62, 3) := by decide +kernel
theorem dX1_readGain_94 : decode cX1_readGain 94 = .ok (.aload_n 0, 1) := by decide +kernel
theorem dX1_readGain_95 : decode cX1_readGain 95 = .ok (.bipush 61, 2) := by decide +kernel
theorem dX1_readGain_97 : decode cX1_readGain 97 = .ok (.invokevirtual 89, 3) := by decide +kernel
theorem dX1_readGain_100 : decode cX1_readGain 100 = .ok (.pop, 1) := by decide +kernel
theorem dX1_readGain_101 : decode cX1_readGain 101 = .ok (.aload_n 0, 1) := by decide +kernel
theorem dX1_readGain_102 : decode cX1_readGain 102 = .ok (.invokevirtual 66, 3) := by decide +kernel
theorem dX1_readGain_105 : decode cX1_readGain 105 = .ok (.istore_n 3, 1) := by decide +kernel
theorem dX1_readGain_106 : decode cX1_readGain 106 = .ok (.aload_n 0, 1) := by decide +kernel
theorem dX1_readGain_107 : decode cX1_readGain 107 = .ok (.bipush 59, 2) := by decide +kernel
theorem dX1_readGain_109 : decode cX1_readGain 109 = .ok (.invokevirtual 89, 3) := by decide +kernel
theorem dX1_readGain_112 : decode cX1_readGain 112 = .ok (.pop, 1) := by decide +kernel
theorem dX1_readGain_113 : decode cX1_readGain 113 = .ok (.aload_n 0, 1) := by decide +kernel
theorem dX1_readGain_114 : decode cX1_readGain 114 = .ok (.invokevirtual 103, 3) := by decide +kernel
theorem dX1_readGain_117 : decode cX1_readGain 117 = .ok (.ifCond .eq 20, 3) := by decide +kernel
theorem dX1_readGain_120 : decode cX1_readGain 120 = .ok (.aload_n 0, 1) := by decide +kernel
theorem dX1_readGain_121 : decode cX1_readGain 121 = .ok (.getfield 19, 3) := by decide +kernel
theorem dX1_readGain_124 : decode cX1_readGain 124 = .ok (.aload_n 0, 1) := by decide +kernel
theorem dX1_readGain_125 : decode cX1_readGain 125 = .ok (.getfield 9, 3) := by decide +kernel
theorem dX1_readGain_128 : decode cX1_readGain 128 = .ok (.iload_n 1, 1) := by decide +kernel
theorem dX1_readGain_129 : decode cX1_readGain 129 = .ok (.invokevirtual 107, 3) := by decide +kernel
theorem dX1_readGain_132 : decode cX1_readGain 132 = .ok (.iload_n 2, 1) := by decide +kernel
theorem dX1_readGain_133 : decode cX1_readGain 133 = .ok (.iload_n 3, 1) := by decide +kernel
theorem dX1_readGain_134 : decode cX1_readGain 134 = .ok (.invokevirtual 126, 3) := by decide +kernel
theorem dX1_readGain_137 : decode cX1_readGain 137 = .ok (.return_, 1) := by decide +kernel
theorem dX1_readGoal_0 : decode cX1_readGoal 0 = .ok (.aload_n 0, 1) := by decide +kernel
theorem dX1_readGoal_1 : decode cX1_readGoal 1 = .ok (.aload_n 0, 1) := by decide +kernel
theorem dX1_readGoal_2 : decode cX1_readGoal 2 = .ok (.getfield 19, 3) := by decide +kernel
theorem dX1_readGoal_5 : decode cX1_readGoal 5 = .ok (.getfield 130, 3) := by decide +kernel
theorem dX1_readGoal_8 : decode cX1_readGoal 8 = .ok (.ifCond .ge 7, 3) := by decide +kernel
theorem dX1_readGoal_11 : decode cX1_readGoal 11 = .ok (.iconst 1, 1) := by decide +kernel
theorem dX1_readGoal_12 : decode cX1_readGoal 12 = .ok (.goto 4, 3) := by decide +kernel
theorem dX1_readGoal_15 : decode cX1_readGoal 15 = .ok (.iconst 0, 1) := by decide +kernel
theorem dX1_readGoal_16 : decode cX1_readGoal 16 = .ok (.iconst 4, 1) := by decide +kernel
theorem dX1_readGoal_17 : decode cX1_readGoal 17 = .ok (.aload_n 0, 1) := by decide +kernel
theorem dX1_readGoal_18 : decode cX1_readGoal 18 = .ok (.getfield 43, 3) := by decide +kernel
theorem dX1_readGoal_21 : decode cX1_readGoal 21 = .ok (.invokevirtual 62, 3) := by decide +kernel
theorem dX1_readGoal_24 : decode cX1_readGoal 24 = .ok (.aload_n 0, 1) := by decide +kernel
theorem dX1_readGoal_25 : decode cX1_readGoal 25 = .ok (.sipush 261, 3) := by decide +kernel
theorem dX1_readGoal_28 : decode cX1_readGoal 28 = .ok (.invokevirtual 89, 3) := by decide +kernel
theorem dX1_readGoal_31 : decode cX1_readGoal 31 = .ok (.pop, 1) := by decide +kernel
theorem dX1_readGoal_32 : decode cX1_readGoal 32 = .ok (.aload_n 0, 1) := by decide +kernel
theorem dX1_readGoal_33 : decode cX1_readGoal 33 = .ok (.invokevirtual 66, 3) := by decide +kernel
theorem dX1_readGoal_36 : decode cX1_readGoal 36 = .ok (.istore_n 1, 1) := by decide +kernel
theorem dX1_readGoal_37 : decode cX1_readGoal 37 = .ok (.aload_n 0, 1) := by decide +kernel
theorem dX1_readGoal_38 : decode cX1_readGoal 38 = .ok (.bipush 59, 2) := by decide +kernel
theorem dX1_readGoal_40 : decode cX1_readGoal 40 = .ok (.invokevirtual 89, 3) := by decide +kernel
theorem dX1_readGoal_43 : decode cX1_readGoal 43 = .ok (.pop, 1) := by decide +kernel
theorem dX1_readGoal_44 : decode cX1_readGoal 44 = .ok (.aload_n 0, 1) := by decide +kernel
theorem dX1_readGoal_45 : decode cX1_readGoal 45 = .ok (.invokevirtual 103, 3) := by decide +kernel
theorem dX1_readGoal_48 : decode cX1_readGoal 48 = .ok (.ifCond .eq 11, 3) := by decide +kernel
theorem dX1_readGoal_51 : decode cX1_readGoal 51 = .ok (.aload_n 0, 1) := by decide +kernel
theorem dX1_readGoal_52 : decode cX1_readGoal 52 = .ok (.getfield 19, 3) := by decide +kernel
theorem dX1_readGoal_55 : decode cX1_readGoal 55 = .ok (.iload_n 1, 1) := by decide +kernel
theorem dX1_readGoal_56 : decode cX1_readGoal 56 = .ok (.putfield 130, 3) := by decide +kernel
theorem dX1_readGoal_59 : decode cX1_readGoal 59 = .ok (.return_, 1) := by decide +kernel
theorem dX1_readCommand_0 : decode cX1_readCommand 0 = .ok (.aload_n 0, 1) := by decide +kernel
theorem dX1_readCommand_1 : decode cX1_readCommand 1 = .ok (.aload_n 0, 1) := by decide +kernel
theorem dX1_readCommand_2 : decode cX1_readCommand 2 = .ok (.getfield 19, 3) := by decide +kernel
theorem dX1_readCommand_5 : decode cX1_readCommand 5 = .ok (.getfield 59, 3) := by decide +kernel
theorem dX1_readCommand_8 : decode cX1_readCommand 8 = .ok (.bipush 16, 2) := by decide +kernel
theorem dX1_readCommand_10 : decode cX1_readCommand 10 = .ok (.if_icmp .ge 7, 3) := by decide +kernel
theorem dX1_readCommand_13 : decode cX1_readCommand 13 = .ok (.iconst 1, 1) := by decide +kernel
theorem dX1_readCommand_14 : decode cX1_readCommand 14 = .ok (.goto 4, 3) := by decide +kernel
theorem dX1_readCommand_17 : decode cX1_readCommand 17 = .ok (.iconst 0, 1) := by decide +kernel
theorem dX1_readCommand_18 : decode cX1_readCommand 18 = .ok (.iconst 4, 1) := by decide +kernel
theorem dX1_readCommand_19 : decode cX1_readCommand 19 = .ok (.aload_n 0, 1) := by decide +kernel
theorem dX1_readCommand_20 : decode cX1_readCommand 20 = .ok (.getfield 43, 3) := by decide +kernel
theorem dX1_readCommand_23 : decode cX1_readCommand 23 = .ok (.invokevirtual 62, 3) := by decide +kernel
theorem dX1_readCommand_26 : decode cX1_readCommand 26 = .ok (.aload_n 0, 1) := by decide +kernel
theorem dX1_readCommand_27 : decode cX1_readCommand 27 = .ok (.sipush 262, 3) := by decide +kernel
theorem dX1_readCommand_30 : decode cX1_readCommand 30 = .ok (.invokevirtual 89, 3) := by decide +kernel
theorem dX1_readCommand_33 : decode cX1_readCommand 33 = .ok (.pop, 1) := by decide +kernel
theorem dX1_readCommand_34 : decode cX1_readCommand 34 = .ok (.aload_n 0, 1) := by decide +kernel
theorem dX1_readCommand_35 : decode cX1_readCommand 35 = .ok (.sipush 273, 3) := by decide +kernel
theorem dX1_readCommand_38 : decode cX1_readCommand 38 = .ok (.invokevirtual 89, 3) := by decide +kernel
theorem dX1_readCommand_41 : decode cX1_readCommand 41 = .ok (.istore_n 1, 1) := by decide +kernel
theorem dX1_readCommand_42 : decode cX1_readCommand 42 = .ok (.aload_n 0, 1) := by decide +kernel
theorem dX1_readCommand_43 : decode cX1_readCommand 43 = .ok (.iload_n 1, 1) := by decide +kernel
theorem dX1_readCommand_44 : decode cX1_readCommand 44 = .ok (.invokevirtual 96, 3) := by decide +kernel
theorem dX1_readCommand_47 : decode cX1_readCommand 47 = .ok (.aload_n 0, 1) := by decide +kernel
theorem dX1_readCommand_48 : decode cX1_readCommand 48 = .ok (.sipush 263, 3) := by decide +kernel
theorem dX1_readCommand_51 : decode cX1_readCommand 51 = .ok (.invokevirtual 89, 3) := by decide +kernel
theorem dX1_readCommand_54 : decode cX1_readCommand 54 = .ok (.pop, 1) := by decide +kernel
theorem dX1_readCommand_55 : decode cX1_readCommand 55 = .ok (.aload_n 0, 1) := by decide +kernel
theorem dX1_readCommand_56 : decode cX1_readCommand 56 = .ok (.invokevirtual 66, 3) := by decide +kernel
theorem dX1_readCommand_59 : decode cX1_readCommand 59 = .ok (.istore_n 2, 1) := by decide +kernel
theorem dX1_readCommand_60 : decode cX1_readCommand 60 = .ok (.aload_n 0, 1) := by decide +kernel
theorem dX1_readCommand_61 : decode cX1_readCommand 61 = .ok (.invokevirtual 103, 3) := by decide +kernel
theorem dX1_readCommand_64 : decode cX1_readCommand 64 = .ok (.ifCond .eq 30, 3) := by decide +kernel
theorem dX1_readCommand_67 : decode cX1_readCommand 67 = .ok (.aload_n 0, 1) := by decide +kernel
theorem dX1_readCommand_68 : decode cX1_readCommand 68 = .ok (.getfield 19, 3) := by decide +kernel
theorem dX1_readCommand_71 : decode cX1_readCommand 71 = .ok (.aload_n 0, 1) := by decide +kernel
theorem dX1_readCommand_72 : decode cX1_readCommand 72 = .ok (.getfield 9, 3) := by decide +kernel
theorem dX1_readCommand_75 : decode cX1_readCommand 75 = .ok (.iload_n 1, 1) := by decide +kernel
theorem dX1_readCommand_76 : decode cX1_readCommand 76 = .ok (.invokevirtual 107, 3) := by decide +kernel
theorem dX1_readCommand_79 : decode cX1_readCommand 79 = .ok (.aload_n 0, 1) := by decide +kernel
theorem dX1_readCommand_80 : decode cX1_readCommand 80 = .ok (.getfield 9, 3) := by decide +kernel
theorem dX1_readCommand_83 : decode cX1_readCommand 83 = .ok (.getfield 133, 3) := by decide +kernel
theorem dX1_readCommand_86 : decode cX1_readCommand 86 = .ok (.iload_n 1, 1) := by decide +kernel
theorem dX1_readCommand_87 : decode cX1_readCommand 87 = .ok (.invokestatic 137, 3) := by decide +kernel
theorem dX1_readCommand_90 : decode cX1_readCommand 90 = .ok (.iload_n 2, 1) := by decide +kernel
theorem dX1_readCommand_91 : decode cX1_readCommand 91 = .ok (.invokevirtual 141, 3) := by decide +kernel
theorem dX1_readCommand_94 : decode cX1_readCommand 94 = .ok (.iconst 0, 1) := by decide +kernel
theorem dX1_readCommand_95 : decode cX1_readCommand 95 = .ok (.istore_n 3, 1) := by decide +kernel
theorem dX1_readCommand_96 : decode cX1_readCommand 96 = .ok (.aload_n 0, 1) := by decide +kernel
theorem dX1_readCommand_97 : decode cX1_readCommand 97 = .ok (.invokevirtual 144, 3) := by decide +kernel
theorem dX1_readCommand_100 : decode cX1_readCommand 100 = .ok (.iinc 3 1, 3) := by decide +kernel
theorem dX1_readCommand_103 : decode cX1_readCommand 103 = .ok (.iload_n 3, 1) := by decide +kernel
theorem dX1_readCommand_104 : decode cX1_readCommand 104 = .ok (.sipush 1500, 3) := by decide +kernel
theorem dX1_readCommand_107 : decode cX1_readCommand 107 = .ok (.if_icmp .ge 13, 3) := by decide +kernel
theorem dX1_readCommand_110 : decode cX1_readCommand 110 = .ok (.aload_n 0, 1) := by decide +kernel
theorem dX1_readCommand_111 : decode cX1_readCommand 111 = .ok (.sipush 266, 3) := by decide +kernel
theorem dX1_readCommand_114 : decode cX1_readCommand 114 = .ok (.invokevirtual 118, 3) := by decide +kernel
theorem dX1_readCommand_117 : decode cX1_readCommand 117 = .ok (.ifCond .ne (-21), 3) := by decide +kernel
theorem dX1_readCommand_120 : decode cX1_readCommand 120 = .ok (.aload_n 0, 1) := by decide +kernel
theorem dX1_readCommand_121 : decode cX1_readCommand 121 = .ok (.bipush 59, 2) := by decide +kernel
theorem dX1_readCommand_123 : decode cX1_readCommand 123 = .ok (.invokevirtual 89, 3) := by decide +kernel
theorem dX1_readCommand_126 : decode cX1_readCommand 126 = .ok (.pop, 1) := by decide +kernel
theorem dX1_readCommand_127 : decode cX1_readCommand 127 = .ok (.aload_n 0, 1) := by decide +kernel
theorem dX1_readCommand_128 : decode cX1_readCommand 128 = .ok (.aload_n 0, 1) := by decide +kernel
theorem dX1_readCommand_129 : decode cX1_readCommand 129 = .ok (.getfield 19, 3) := by decide +kernel
theorem dX1_readCommand_132 : decode cX1_readCommand 132 = .ok (.invokevirtual 147, 3) := by decide +kernel
theorem dX1_readCommand_135 : decode cX1_readCommand 135 = .ok (.bipush 100, 2) := by decide +kernel
theorem dX1_readCommand_137 : decode cX1_readCommand 137 = .ok (.if_icmp .ne 7, 3) := by decide +kernel
theorem dX1_readCommand_140 : decode cX1_readCommand 140 = .ok (.iconst 1, 1) := by decide +kernel
theorem dX1_readCommand_141 : decode cX1_readCommand 141 = .ok (.goto 4, 3) := by decide +kernel
theorem dX1_readCommand_144 : decode cX1_readCommand 144 = .ok (.iconst 0, 1) := by decide +kernel
theorem dX1_readCommand_145 : decode cX1_readCommand 145 = .ok (.bipush 6, 2) := by decide +kernel
theorem dX1_readCommand_147 : decode cX1_readCommand 147 = .ok (.iload_n 1, 1) := by decide +kernel
theorem dX1_readCommand_148 : decode cX1_readCommand 148 = .ok (.invokevirtual 62, 3) := by decide +kernel
theorem dX1_readCommand_151 : decode cX1_readCommand 151 = .ok (.return_, 1) := by decide +kernel
theorem dX1_readBranch_0 : decode cX1_readBranch 0 = .ok (.aload_n 0, 1) := by decide +kernel
theorem dX1_readBranch_1 : decode cX1_readBranch 1 = .ok (.aload_n 0, 1) := by decide +kernel
theorem dX1_readBranch_2 : decode cX1_readBranch 2 = .ok (.getfield 19, 3) := by decide +kernel
theorem dX1_readBranch_5 : decode cX1_readBranch 5 = .ok (.invokevirtual 150, 3) := by decide +kernel
theorem dX1_readBranch_8 : decode cX1_readBranch 8 = .ok (.iconst 4, 1) := by decide +kernel
theorem dX1_readBranch_9 : decode cX1_readBranch 9 = .ok (.if_icmp .ge 7, 3) := by decide +kernel
theorem dX1_readBranch_12 : decode cX1_readBranch 12 = .ok (.iconst 1, 1) := by decide +kernel
theorem dX1_readBranch_13 : decode cX1_readBranch 13 = .ok (.goto 4, 3) := by decide +kernel
theorem dX1_readBranch_16 : decode cX1_readBranch 16 = .ok (.iconst 0, 1) := by decide +kernel
theorem dX1_readBranch_17 : decode cX1_readBranch 17 = .ok (.iconst 4, 1) := by decide +kernel
theorem dX1_readBranch_18 : decode cX1_readBranch 18 = .ok (.aload_n 0, 1) := by decide +kernel
theorem dX1_readBranch_19 : decode cX1_readBranch 19 = .ok (.getfield 43, 3) := by decide +kernel
theorem dX1_readBranch_22 : decode cX1_readBranch 22 = .ok (.invokevirtual 62, 3) := by decide +kernel
theorem dX1_readBranch_25 : decode cX1_readBranch 25 = .ok (.aload_n 0, 1) := by decide +kernel
theorem dX1_readBranch_26 : decode cX1_readBranch 26 = .ok (.sipush 264, 3) := by decide +kernel
theorem dX1_readBranch_29 : decode cX1_readBranch 29 = .ok (.invokevirtual 89, 3) := by decide +kernel
theorem dX1_readBranch_32 : decode cX1_readBranch 32 = .ok (.pop, 1) := by decide +kernel
theorem dX1_readBranch_33 : decode cX1_readBranch 33 = .ok (.aload_n 0, 1) := by decide +kernel
theorem dX1_readBranch_34 : decode cX1_readBranch 34 = .ok (.sipush 274, 3) := by decide +kernel
theorem dX1_readBranch_37 : decode cX1_readBranch 37 = .ok (.invokevirtual 89, 3) := by decide +kernel
theorem dX1_readBranch_40 : decode cX1_readBranch 40 = .ok (.istore_n 1, 1) := by decide +kernel
theorem dX1_readBranch_41 : decode cX1_readBranch 41 = .ok (.aload_n 0, 1) := by decide +kernel
theorem dX1_readBranch_42 : decode cX1_readBranch 42 = .ok (.getfield 9, 3) := by decide +kernel
theorem dX1_readBranch_45 : decode cX1_readBranch 45 = .ok (.iload_n 1, 1) := by decide +kernel
theorem dX1_readBranch_46 : decode cX1_readBranch 46 = .ok (.invokevirtual 107, 3) := by decide +kernel
theorem dX1_readBranch_49 : decode cX1_readBranch 49 = .ok (.lstore_n 2, 1) := by decide +kernel
theorem dX1_readBranch_50 : decode cX1_readBranch 50 = .ok (.aload_n 0, 1) := by decide +kernel
theorem dX1_readBranch_51 : decode cX1_readBranch 51 = .ok (.lload_n 2, 1) := by decide +kernel
theorem dX1_readBranch_52 : decode cX1_readBranch 52 = .ok (.lconst 1, 1) := by decide +kernel
theorem dX1_readBranch_53 : decode cX1_readBranch 53 = .ok (.lcmp, 1) := by decide +kernel
theorem dX1_readBranch_54 : decode cX1_readBranch 54 = .ok (.ifCond .lt 15, 3) := by decide +kernel
theorem dX1_readBranch_57 : decode cX1_readBranch 57 = .ok (.lload_n 2, 1) := by decide +kernel
theorem dX1_readBranch_58 : decode cX1_readBranch 58 = .ok (.ldc2_w 153, 3) := by decide +kernel
theorem dX1_readBranch_61 : decode cX1_readBranch 61 = .ok (.lcmp, 1) := by decide +kernel
theorem dX1_readBranch_62 : decode cX1_readBranch 62 = .ok (.ifCond .gt 7, 3) := by decide +kernel
theorem dX1_readBranch_65 : decode cX1_readBranch 65 = .ok (.iconst 1, 1) := by decide +kernel
theorem dX1_readBranch_66 : decode cX1_readBranch 66 = .ok (.goto 4, 3) := by decide +kernel
theorem dX1_readBranch_69 : decode cX1_readBranch 69 = .ok (.iconst 0, 1) := by decide +kernel
theorem dX1_readBranch_70 : decode cX1_readBranch 70 = .ok (.iconst 5, 1) := by decide +kernel
theorem dX1_readBranch_71 : decode cX1_readBranch 71 = .ok (.iload_n 1, 1) := by decide +kernel
theorem dX1_readBranch_72 : decode cX1_readBranch 72 = .ok (.invokevirtual 62, 3) := by decide +kernel
theorem dX1_readBranch_75 : decode cX1_readBranch 75 = .ok (.aload_n 0, 1) := by decide +kernel
theorem dX1_readBranch_76 : decode cX1_readBranch 76 = .ok (.invokevirtual 103, 3) := by decide +kernel
theorem dX1_readBranch_79 : decode cX1_readBranch 79 = .ok (.ifCond .eq 12, 3) := by decide +kernel
theorem dX1_readBranch_82 : decode cX1_readBranch 82 = .ok (.aload_n 0, 1) := by decide +kernel
theorem dX1_readBranch_83 : decode cX1_readBranch 83 = .ok (.getfield 19, 3) := by decide +kernel
theorem dX1_readBranch_86 : decode cX1_readBranch 86 = .ok (.lload_n 2, 1) := by decide +kernel
theorem dX1_readBranch_87 : decode cX1_readBranch 87 = .ok (.l2i, 1) := by decide +kernel
theorem dX1_readBranch_88 : decode cX1_readBranch 88 = .ok (.invokevirtual 155, 3) := by decide +kernel
theorem dX1_readBranch_91 : decode cX1_readBranch 91 = .ok (.aload_n 0, 1) := by decide +kernel
theorem dX1_readBranch_92 : decode cX1_readBranch 92 = .ok (.sipush 265, 3) := by decide +kernel
theorem dX1_readBranch_95 : decode cX1_readBranch 95 = .ok (.invokevirtual 118, 3) := by decide +kernel
theorem dX1_readBranch_98 : decode cX1_readBranch 98 = .ok (.istore 4, 2) := by decide +kernel
theorem dX1_readBranch_100 : decode cX1_readBranch 100 = .ok (.iconst 0, 1) := by decide +kernel
theorem dX1_readBranch_101 : decode cX1_readBranch 101 = .ok (.istore 5, 2) := by decide +kernel
theorem dX1_readBranch_103 : decode cX1_readBranch 103 = .ok (.iload 5, 2) := by decide +kernel
theorem dX1_readBranch_105 : decode cX1_readBranch 105 = .ok (.sipush 1500, 3) := by decide +kernel
theorem dX1_readBranch_108 : decode cX1_readBranch 108 = .ok (.if_icmp .ge 121, 3) := by decide +kernel
theorem dX1_readBranch_111 : decode cX1_readBranch 111 = .ok (.iload 4, 2) := by decide +kernel
theorem dX1_readBranch_113 : decode cX1_readBranch 113 = .ok (.ifCond .eq 116, 3) := by decide +kernel
theorem dX1_readBranch_116 : decode cX1_readBranch 116 = .ok (.aload_n 0, 1) := by decide +kernel
theorem dX1_readBranch_117 : decode cX1_readBranch 117 = .ok (.sipush 273, 3) := by decide +kernel
theorem dX1_readBranch_120 : decode cX1_readBranch 120 = .ok (.invokevirtual 89, 3) := by decide +kernel
theorem dX1_readBranch_123 : decode cX1_readBranch 123 = .ok (.istore 6, 2) := by decide +kernel
theorem dX1_readBranch_125 : decode cX1_readBranch 125 = .ok (.aload_n 0, 1) := by decide +kernel
theorem dX1_readBranch_126 : decode cX1_readBranch 126 = .ok (.getfield 19, 3) := by decide +kernel
theorem dX1_readBranch_129 : decode cX1_readBranch 129 = .ok (.aload_n 0, 1) := by decide +kernel
theorem dX1_readBranch_130 : decode cX1_readBranch 130 = .ok (.getfield 9, 3) := by decide +kernel
theorem dX1_readBranch_133 : decode cX1_readBranch 133 = .ok (.iload 6, 2) := by decide +kernel
theorem dX1_readBranch_135 : decode cX1_readBranch 135 = .ok (.invokevirtual 107, 3) := by decide +kernel
theorem dX1_readBranch_138 : decode cX1_readBranch 138 = .ok (.invokevirtual 158, 3) := by decide +kernel
theorem dX1_readBranch_141 : decode cX1_readBranch 141 = .ok (.istore 7, 2) := by decide +kernel
theorem dX1_readBranch_143 : decode cX1_readBranch 143 = .ok (.aload_n 0, 1) := by decide +kernel
theorem dX1_readBranch_144 : decode cX1_readBranch 144 = .ok (.iload 7, 2) := by decide +kernel
theorem dX1_readBranch_146 : decode cX1_readBranch 146 = .ok (.ifCond .lt 7, 3) := by decide +kernel
theorem dX1_readBranch_149 : decode cX1_readBranch 149 = .ok (.iconst 1, 1) := by decide +kernel
theorem dX1_readBranch_150 : decode cX1_readBranch 150 = .ok (.goto 4, 3) := by decide +kernel
theorem dX1_readBranch_153 : decode cX1_readBranch 153 = .ok (.iconst 0, 1) := by decide +kernel
theorem dX1_readBranch_154 : decode cX1_readBranch 154 = .ok (.iconst 2, 1) := by decide +kernel
theorem dX1_readBranch_155 : decode cX1_readBranch 155 = .ok (.iload 6, 2) := by decide +kernel
theorem dX1_readBranch_157 : decode cX1_readBranch 157 = .ok (.invokevirtual 62, 3) := by decide +kernel
theorem dX1_readBranch_160 : decode cX1_readBranch 160 = .ok (.aload_n 0, 1) := by decide +kernel
theorem dX1_readBranch_161 : decode cX1_readBranch 161 = .ok (.aload_n 0, 1) := by decide +kernel
theorem dX1_readBranch_162 : decode cX1_readBranch 162 = .ok (.getfield 19, 3) := by decide +kernel
theorem dX1_readBranch_165 : decode cX1_readBranch 165 = .ok (.iload 7, 2) := by decide +kernel
theorem dX1_readBranch_167 : decode cX1_readBranch 167 = .ok (.invokevirtual 161, 3) := by decide +kernel
theorem dX1_readBranch_170 : decode cX1_readBranch 170 = .ok (.ifCond .ne 7, 3) := by decide +kernel
theorem dX1_readBranch_173 : decode cX1_readBranch 173 = .ok (.iconst 1, 1) := by decide +kernel
theorem dX1_readBranch_174 : decode cX1_readBranch 174 = .ok (.goto 4, 3) := by decide +kernel
theorem dX1_readBranch_177 : decode cX1_readBranch 177 = .ok (.iconst 0, 1) := by decide +kernel
theorem dX1_readBranch_178 : decode cX1_readBranch 178 = .ok (.iconst 3, 1) := by decide +kernel
theorem dX1_readBranch_179 : decode cX1_readBranch 179 = .ok (.iload 6, 2) := by decide +kernel
theorem dX1_readBranch_181 : decode cX1_readBranch 181 = .ok (.invokevirtual 62, 3) := by decide +kernel
theorem dX1_readBranch_184 : decode cX1_readBranch 184 = .ok (.aload_n 0, 1) := by decide +kernel
theorem dX1_readBranch_185 : decode cX1_readBranch 185 = .ok (.bipush 61, 2) := by decide +kernel
theorem dX1_readBranch_187 : decode cX1_readBranch 187 = .ok (.invokevirtual 89, 3) := by decide +kernel
theorem dX1_readBranch_190 : decode cX1_readBranch 190 = .ok (.pop, 1) := by decide +kernel
theorem dX1_readBranch_191 : decode cX1_readBranch 191 = .ok (.aload_n 0, 1) := by decide +kernel
theorem dX1_readBranch_192 : decode cX1_readBranch 192 = .ok (.invokevirtual 66, 3) := by decide +kernel
theorem dX1_readBranch_195 : decode cX1_readBranch 195 = .ok (.istore 8, 2) := by decide +kernel
theorem dX1_readBranch_197 : decode cX1_readBranch 197 = .ok (.aload_n 0, 1) := by decide +kernel
theorem dX1_readBranch_198 : decode cX1_readBranch 198 = .ok (.invokevirtual 103, 3) := by decide +kernel
theorem dX1_readBranch_201 : decode cX1_readBranch 201 = .ok (.ifCond .eq 14, 3) := by decide +kernel
theorem dX1_readBranch_204 : decode cX1_readBranch 204 = .ok (.aload_n 0, 1) := by decide +kernel
theorem dX1_readBranch_205 : decode cX1_readBranch 205 = .ok (.getfield 19, 3) := by decide +kernel
theorem dX1_readBranch_208 : decode cX1_readBranch 208 = .ok (.iload 7, 2) := by decide +kernel
theorem dX1_readBranch_210 : decode cX1_readBranch 210 = .ok (.iload 8, 2) := by decide +kernel
theorem dX1_readBranch_212 : decode cX1_readBranch 212 = .ok (.invokevirtual 164, 3) := by decide +kernel
theorem dX1_readBranch_215 : decode cX1_readBranch 215 = .ok (.aload_n 0, 1) := by decide +kernel
theorem dX1_readBranch_216 : decode cX1_readBranch 216 = .ok (.bipush 44, 2) := by decide +kernel
theorem dX1_readBranch_218 : decode cX1_readBranch 218 = .ok (.invokevirtual 118, 3) := by decide +kernel
theorem dX1_readBranch_221 : decode cX1_readBranch 221 = .ok (.istore 4, 2) := by decide +kernel
theorem dX1_readBranch_223 : decode cX1_readBranch 223 = .ok (.iinc 5 1, 3) := by decide +kernel
theorem dX1_readBranch_226 : decode cX1_readBranch 226 = .ok (.goto (-123), 3) := by decide +kernel
theorem dX1_readBranch_229 : decode cX1_readBranch 229 = .ok (.return_, 1) := by decide +kernel
theorem dX1_readWhole_0 : decode cX1_readWhole 0 = .ok (.aload_n 0, 1) := by decide +kernel
theorem dX1_readWhole_1 : decode cX1_readWhole 1 = .ok (.bipush 45, 2) := by decide +kernel
theorem dX1_readWhole_3 : decode cX1_readWhole 3 = .ok (.invokevirtual 118, 3) := by decide +kernel
theorem dX1_readWhole_6 : decode cX1_readWhole 6 = .ok (.pop, 1) := by decide +kernel
theorem dX1_readWhole_7 : decode cX1_readWhole 7 = .ok (.aload_n 0, 1) := by decide +kernel
theorem dX1_readWhole_8 : decode cX1_readWhole 8 = .ok (.sipush 274, 3) := by decide +kernel
theorem dX1_readWhole_11 : decode cX1_readWhole 11 = .ok (.invokevirtual 89, 3) := by decide +kernel
theorem dX1_readWhole_14 : decode cX1_readWhole 14 = .ok (.ireturn, 1) := by decide +kernel
theorem dX1_wholeAt_0 : decode cX1_wholeAt 0 = .ok (.aload_n 0, 1) := by decide +kernel
theorem dX1_wholeAt_1 : decode cX1_wholeAt 1 = .ok (.getfield 9, 3) := by decide +kernel
theorem dX1_wholeAt_4 : decode cX1_wholeAt 4 = .ok (.iload_n 1, 1) := by decide +kernel
theorem dX1_wholeAt_5 : decode cX1_wholeAt 5 = .ok (.invokevirtual 107, 3) := by decide +kernel
theorem dX1_wholeAt_8 : decode cX1_wholeAt 8 = .ok (.l2i, 1) := by decide +kernel
theorem dX1_wholeAt_9 : decode cX1_wholeAt 9 = .ok (.istore_n 2, 1) := by decide +kernel
theorem dX1_wholeAt_10 : decode cX1_wholeAt 10 = .ok (.aload_n 0, 1) := by decide +kernel
theorem dX1_wholeAt_11 : decode cX1_wholeAt 11 = .ok (.getfield 9, 3) := by decide +kernel
theorem dX1_wholeAt_14 : decode cX1_wholeAt 14 = .ok (.iload_n 1, 1) := by decide +kernel
theorem dX1_wholeAt_15 : decode cX1_wholeAt 15 = .ok (.iconst 1, 1) := by decide +kernel
theorem dX1_wholeAt_16 : decode cX1_wholeAt 16 = .ok (.isub, 1) := by decide +kernel
theorem dX1_wholeAt_17 : decode cX1_wholeAt 17 = .ok (.invokevirtual 167, 3) := by decide +kernel
theorem dX1_wholeAt_20 : decode cX1_wholeAt 20 = .ok (.bipush 45, 2) := by decide +kernel
theorem dX1_wholeAt_22 : decode cX1_wholeAt 22 = .ok (.if_icmp .ne 8, 3) := by decide +kernel
theorem dX1_wholeAt_25 : decode cX1_wholeAt 25 = .ok (.iload_n 2, 1) := by decide +kernel
theorem dX1_wholeAt_26 : decode cX1_wholeAt 26 = .ok (.ineg, 1) := by decide +kernel
theorem dX1_wholeAt_27 : decode cX1_wholeAt 27 = .ok (.goto 4, 3) := by decide +kernel
theorem dX1_wholeAt_30 : decode cX1_wholeAt 30 = .ok (.iload_n 2, 1) := by decide +kernel
theorem dX1_wholeAt_31 : decode cX1_wholeAt 31 = .ok (.ireturn, 1) := by decide +kernel
theorem dX1_readExpression_0 : decode cX1_readExpression 0 = .ok (.aload_n 0, 1) := by decide +kernel
theorem dX1_readExpression_1 : decode cX1_readExpression 1 = .ok (.aload_n 0, 1) := by decide +kernel
theorem dX1_readExpression_2 : decode cX1_readExpression 2 = .ok (.getfield 43, 3) := by decide +kernel
theorem dX1_readExpression_5 : decode cX1_readExpression 5 = .ok (.bipush 60, 2) := by decide +kernel
theorem dX1_readExpression_7 : decode cX1_readExpression 7 = .ok (.iadd, 1) := by decide +kernel
theorem dX1_readExpression_8 : decode cX1_readExpression 8 = .ok (.aload_n 0, 1) := by decide +kernel
theorem dX1_readExpression_9 : decode cX1_readExpression 9 = .ok (.getfield 9, 3) := by decide +kernel
theorem dX1_readExpression_12 : decode cX1_readExpression 12 = .ok (.getfield 73, 3) := by decide +kernel
theorem dX1_readExpression_15 : decode cX1_readExpression 15 = .ok (.invokestatic 170, 3) := by decide +kernel
theorem dX1_readExpression_18 : decode cX1_readExpression 18 = .ok (.putfield 78, 3) := by decide +kernel
theorem dX1_readExpression_21 : decode cX1_readExpression 21 = .ok (.aload_n 0, 1) := by decide +kernel
theorem dX1_readExpression_22 : decode cX1_readExpression 22 = .ok (.getfield 15, 3) := by decide +kernel
theorem dX1_readExpression_25 : decode cX1_readExpression 25 = .ok (.invokevirtual 176, 3) := by decide +kernel
theorem dX1_readExpression_28 : decode cX1_readExpression 28 = .ok (.istore_n 1, 1) := by decide +kernel
theorem dX1_readExpression_29 : decode cX1_readExpression 29 = .ok (.aload_n 0, 1) := by decide +kernel
theorem dX1_readExpression_30 : decode cX1_readExpression 30 = .ok (.iconst 0, 1) := by decide +kernel
theorem dX1_readExpression_31 : decode cX1_readExpression 31 = .ok (.iconst 0, 1) := by decide +kernel
theorem dX1_readExpression_32 : decode cX1_readExpression 32 = .ok (.invokevirtual 179, 3) := by decide +kernel
theorem dX1_readExpression_35 : decode cX1_readExpression 35 = .ok (.aload_n 0, 1) := by decide +kernel
theorem dX1_readExpression_36 : decode cX1_readExpression 36 = .ok (.aload_n 0, 1) := by decide +kernel
theorem dX1_readExpression_37 : decode cX1_readExpression 37 = .ok (.getfield 9, 3) := by decide +kernel
theorem dX1_readExpression_40 : decode cX1_readExpression 40 = .ok (.getfield 73, 3) := by decide +kernel
theorem dX1_readExpression_43 : decode cX1_readExpression 43 = .ok (.putfield 78, 3) := by decide +kernel
theorem dX1_readExpression_46 : decode cX1_readExpression 46 = .ok (.iload_n 1, 1) := by decide +kernel
theorem dX1_readExpression_47 : decode cX1_readExpression 47 = .ok (.ireturn, 1) := by decide +kernel
theorem dX1_readLevel_0 : decode cX1_readLevel 0 = .ok (.iload_n 1, 1) := by decide +kernel
theorem dX1_readLevel_1 : decode cX1_readLevel 1 = .ok (.iconst 4, 1) := by decide +kernel
theorem dX1_readLevel_2 : decode cX1_readLevel 2 = .ok (.if_icmp .le 9, 3) := by decide +kernel
theorem dX1_readLevel_5 : decode cX1_readLevel 5 = .ok (.aload_n 0, 1) := by decide +kernel
theorem dX1_readLevel_6 : decode cX1_readLevel 6 = .ok (.iload_n 2, 1) := by decide +kernel
theorem dX1_readLevel_7 : decode cX1_readLevel 7 = .ok (.invokevirtual 182, 3) := by decide +kernel
theorem dX1_readLevel_10 : decode cX1_readLevel 10 = .ok (.return_, 1) := by decide +kernel
theorem dX1_readLevel_11 : decode cX1_readLevel 11 = .ok (.aload_n 0, 1) := by decide +kernel
theorem dX1_readLevel_12 : decode cX1_readLevel 12 = .ok (.iload_n 1, 1) := by decide +kernel
theorem dX1_readLevel_13 : decode cX1_readLevel 13 = .ok (.iconst 1, 1) := by decide +kernel
theorem dX1_readLevel_14 : decode cX1_readLevel 14 = .ok (.iadd, 1) := by decide +kernel
theorem dX1_readLevel_15 : decode cX1_readLevel 15 = .ok (.iload_n 2, 1) := by decide +kernel
theorem dX1_readLevel_16 : decode cX1_readLevel 16 = .ok (.invokevirtual 179, 3) := by decide +kernel
theorem dX1_readLevel_19 : decode cX1_readLevel 19 = .ok (.iload_n 1, 1) := by decide +kernel
theorem dX1_readLevel_20 : decode cX1_readLevel 20 = .ok (.iconst 2, 1) := by decide +kernel
theorem dX1_readLevel_21 : decode cX1_readLevel 21 = .ok (.if_icmp .ne 7, 3) := by decide +kernel
theorem dX1_readLevel_24 : decode cX1_readLevel 24 = .ok (.iconst 1, 1) := by decide +kernel
theorem dX1_readLevel_25 : decode cX1_readLevel 25 = .ok (.goto 5, 3) := by decide +kernel
theorem dX1_readLevel_28 : decode cX1_readLevel 28 = .ok (.bipush 60, 2) := by decide +kernel
theorem dX1_readLevel_30 : decode cX1_readLevel 30 = .ok (.istore_n 3, 1) := by decide +kernel
theorem dX1_readLevel_31 : decode cX1_readLevel 31 = .ok (.aload_n 0, 1) := by decide +kernel
theorem dX1_readLevel_32 : decode cX1_readLevel 32 = .ok (.invokevirtual 27, 3) := by decide +kernel
theorem dX1_readLevel_35 : decode cX1_readLevel 35 = .ok (.istore 4, 2) := by decide +kernel
theorem dX1_readLevel_37 : decode cX1_readLevel 37 = .ok (.iconst 0, 1) := by decide +kernel
theorem dX1_readLevel_38 : decode cX1_readLevel 38 = .ok (.istore 5, 2) := by decide +kernel
theorem dX1_readLevel_40 : decode cX1_readLevel 40 = .ok (.iload 5, 2) := by decide +kernel
theorem dX1_readLevel_42 : decode cX1_readLevel 42 = .ok (.iload_n 3, 1) := by decide +kernel
theorem dX1_readLevel_43 : decode cX1_readLevel 43 = .ok (.if_icmp .ge 52, 3) := by decide +kernel
theorem dX1_readLevel_46 : decode cX1_readLevel 46 = .ok (.iload 4, 2) := by decide +kernel
theorem dX1_readLevel_48 : decode cX1_readLevel 48 = .ok (.invokestatic 185, 3) := by decide +kernel
theorem dX1_readLevel_51 : decode cX1_readLevel 51 = .ok (.iload_n 1, 1) := by decide +kernel
theorem dX1_readLevel_52 : decode cX1_readLevel 52 = .ok (.if_icmp .ne 43, 3) := by decide +kernel
theorem dX1_readLevel_55 : decode cX1_readLevel 55 = .ok (.aload_n 0, 1) := by decide +kernel
theorem dX1_readLevel_56 : decode cX1_readLevel 56 = .ok (.dup, 1) := by decide +kernel
theorem dX1_readLevel_57 : decode cX1_readLevel 57 = .ok (.getfield 43, 3) := by decide +kernel
theorem dX1_readLevel_60 : decode cX1_readLevel 60 = .ok (.iconst 1, 1) := by decide +kernel
theorem dX1_readLevel_61 : decode cX1_readLevel 61 = .ok (.iadd, 1) := by decide +kernel
theorem dX1_readLevel_62 : decode cX1_readLevel 62 = .ok (.putfield 43, 3) := by decide +kernel
theorem dX1_readLevel_65 : decode cX1_readLevel 65 = .ok (.aload_n 0, 1) := by decide +kernel
theorem dX1_readLevel_66 : decode cX1_readLevel 66 = .ok (.iload_n 1, 1) := by decide +kernel
theorem dX1_readLevel_67 : decode cX1_readLevel 67 = .ok (.iconst 1, 1) := by decide +kernel
theorem dX1_readLevel_68 : decode cX1_readLevel 68 = .ok (.iadd, 1) := by decide +kernel
theorem dX1_readLevel_69 : decode cX1_readLevel 69 = .ok (.iload_n 2, 1) := by decide +kernel
theorem dX1_readLevel_70 : decode cX1_readLevel 70 = .ok (.invokevirtual 179, 3) := by decide +kernel
theorem dX1_readLevel_73 : decode cX1_readLevel 73 = .ok (.aload_n 0, 1) := by decide +kernel
theorem dX1_readLevel_74 : decode cX1_readLevel 74 = .ok (.getfield 15, 3) := by decide +kernel
theorem dX1_readLevel_77 : decode cX1_readLevel 77 = .ok (.iload 4, 2) := by decide +kernel
theorem dX1_readLevel_79 : decode cX1_readLevel 79 = .ok (.lconst 0, 1) := by decide +kernel
theorem dX1_readLevel_80 : decode cX1_readLevel 80 = .ok (.invokevirtual 188, 3) := by decide +kernel
theorem dX1_readLevel_83 : decode cX1_readLevel 83 = .ok (.aload_n 0, 1) := by decide +kernel
theorem dX1_readLevel_84 : decode cX1_readLevel 84 = .ok (.invokevirtual 27, 3) := by decide +kernel
theorem dX1_readLevel_87 : decode cX1_readLevel 87 = .ok (.istore 4, 2) := by decide +kernel
theorem dX1_readLevel_89 : decode cX1_readLevel 89 = .ok (.iinc 5 1, 3) := by decide +kernel
theorem dX1_readLevel_92 : decode cX1_readLevel 92 = .ok (.goto (-52), 3) := by decide +kernel
theorem dX1_readLevel_95 : decode cX1_readLevel 95 = .ok (.return_, 1) := by decide +kernel
theorem dX1_readFactor_0 : decode cX1_readFactor 0 = .ok (.aload_n 0, 1) := by decide +kernel
theorem dX1_readFactor_1 : decode cX1_readFactor 1 = .ok (.invokevirtual 27, 3) := by decide +kernel
theorem dX1_readFactor_4 : decode cX1_readFactor 4 = .ok (.istore_n 2, 1) := by decide +kernel
theorem dX1_readFactor_5 : decode cX1_readFactor 5 = .ok (.iload_n 2, 1) := by decide +kernel
theorem dX1_readFactor_6 : decode cX1_readFactor 6 = .ok (.lookupswitch 260 #[(40, 170), (45, 179), (269, 179), (270, 221), (271, 221), (272, 221), (273, 108), (274, 74)], 74) := by decide +kernel
theorem dX1_readFactor_80 : decode cX1_readFactor 80 = .ok (.aload_n 0, 1) := by decide +kernel
theorem dX1_readFactor_81 : decode cX1_readFactor 81 = .ok (.getfield 15, 3) := by decide +kernel
theorem dX1_readFactor_84 : decode cX1_readFactor 84 = .ok (.sipush 274, 3) := by decide +kernel
theorem dX1_readFactor_87 : decode cX1_readFactor 87 = .ok (.aload_n 0, 1) := by decide +kernel
theorem dX1_readFactor_88 : decode cX1_readFactor 88 = .ok (.getfield 9, 3) := by decide +kernel
theorem dX1_readFactor_91 : decode cX1_readFactor 91 = .ok (.aload_n 0, 1) := by decide +kernel
theorem dX1_readFactor_92 : decode cX1_readFactor 92 = .ok (.getfield 43, 3) := by decide +kernel
theorem dX1_readFactor_95 : decode cX1_readFactor 95 = .ok (.invokevirtual 107, 3) := by decide +kernel
theorem dX1_readFactor_98 : decode cX1_readFactor 98 = .ok (.invokevirtual 188, 3) := by decide +kernel
theorem dX1_readFactor_101 : decode cX1_readFactor 101 = .ok (.aload_n 0, 1) := by decide +kernel
theorem dX1_readFactor_102 : decode cX1_readFactor 102 = .ok (.dup, 1) := by decide +kernel
theorem dX1_readFactor_103 : decode cX1_readFactor 103 = .ok (.getfield 43, 3) := by decide +kernel
theorem dX1_readFactor_106 : decode cX1_readFactor 106 = .ok (.iconst 1, 1) := by decide +kernel
theorem dX1_readFactor_107 : decode cX1_readFactor 107 = .ok (.iadd, 1) := by decide +kernel
theorem dX1_readFactor_108 : decode cX1_readFactor 108 = .ok (.putfield 43, 3) := by decide +kernel
theorem dX1_readFactor_111 : decode cX1_readFactor 111 = .ok (.goto 164, 3) := by decide +kernel
theorem dX1_readFactor_114 : decode cX1_readFactor 114 = .ok (.aload_n 0, 1) := by decide +kernel
theorem dX1_readFactor_115 : decode cX1_readFactor 115 = .ok (.getfield 19, 3) := by decide +kernel
theorem dX1_readFactor_118 : decode cX1_readFactor 118 = .ok (.aload_n 0, 1) := by decide +kernel
theorem dX1_readFactor_119 : decode cX1_readFactor 119 = .ok (.getfield 9, 3) := by decide +kernel
theorem dX1_readFactor_122 : decode cX1_readFactor 122 = .ok (.aload_n 0, 1) := by decide +kernel
theorem dX1_readFactor_123 : decode cX1_readFactor 123 = .ok (.getfield 43, 3) := by decide +kernel
theorem dX1_readFactor_126 : decode cX1_readFactor 126 = .ok (.invokevirtual 107, 3) := by decide +kernel
theorem dX1_readFactor_129 : decode cX1_readFactor 129 = .ok (.invokevirtual 158, 3) := by decide +kernel
theorem dX1_readFactor_132 : decode cX1_readFactor 132 = .ok (.istore_n 3, 1) := by decide +kernel
theorem dX1_readFactor_133 : decode cX1_readFactor 133 = .ok (.aload_n 0, 1) := by decide +kernel
theorem dX1_readFactor_134 : decode cX1_readFactor 134 = .ok (.iload_n 3, 1) := by decide +kernel
theorem dX1_readFactor_135 : decode cX1_readFactor 135 = .ok (.ifCond .lt 7, 3) := by decide +kernel
theorem dX1_readFactor_138 : decode cX1_readFactor 138 = .ok (.iconst 1, 1) := by decide +kernel
theorem dX1_readFactor_139 : decode cX1_readFactor 139 = .ok (.goto 4, 3) := by decide +kernel
theorem dX1_readFactor_142 : decode cX1_readFactor 142 = .ok (.iconst 0, 1) := by decide +kernel
theorem dX1_readFactor_143 : decode cX1_readFactor 143 = .ok (.iconst 2, 1) := by decide +kernel
theorem dX1_readFactor_144 : decode cX1_readFactor 144 = .ok (.aload_n 0, 1) := by decide +kernel
theorem dX1_readFactor_145 : decode cX1_readFactor 145 = .ok (.getfield 43, 3) := by decide +kernel
theorem dX1_readFactor_148 : decode cX1_readFactor 148 = .ok (.invokevirtual 62, 3) := by decide +kernel
theorem dX1_readFactor_151 : decode cX1_readFactor 151 = .ok (.aload_n 0, 1) := by decide +kernel
theorem dX1_readFactor_152 : decode cX1_readFactor 152 = .ok (.getfield 15, 3) := by decide +kernel
theorem dX1_readFactor_155 : decode cX1_readFactor 155 = .ok (.sipush 273, 3) := by decide +kernel
theorem dX1_readFactor_158 : decode cX1_readFactor 158 = .ok (.iload_n 3, 1) := by decide +kernel
theorem dX1_readFactor_159 : decode cX1_readFactor 159 = .ok (.i2l, 1) := by decide +kernel
theorem dX1_readFactor_160 : decode cX1_readFactor 160 = .ok (.invokevirtual 188, 3) := by decide +kernel
theorem dX1_readFactor_163 : decode cX1_readFactor 163 = .ok (.aload_n 0, 1) := by decide +kernel
theorem dX1_readFactor_164 : decode cX1_readFactor 164 = .ok (.dup, 1) := by decide +kernel
theorem dX1_readFactor_165 : decode cX1_readFactor 165 = .ok (.getfield 43, 3) := by decide +kernel
theorem dX1_readFactor_168 : decode cX1_readFactor 168 = .ok (.iconst 1, 1) := by decide +kernel
theorem dX1_readFactor_169 : decode cX1_readFactor 169 = .ok (.iadd, 1) := by decide +kernel
theorem dX1_readFactor_170 : decode cX1_readFactor 170 = .ok (.putfield 43, 3) := by decide +kernel
theorem dX1_readFactor_173 : decode cX1_readFactor 173 = .ok (.goto 102, 3) := by decide +kernel
theorem dX1_readFactor_176 : decode cX1_readFactor 176 = .ok (.aload_n 0, 1) := by decide +kernel
theorem dX1_readFactor_177 : decode cX1_readFactor 177 = .ok (.iconst 1, 1) := by decide +kernel
theorem dX1_readFactor_178 : decode cX1_readFactor 178 = .ok (.iload_n 1, 1) := by decide +kernel
theorem dX1_readFactor_179 : decode cX1_readFactor 179 = .ok (.invokevirtual 192, 3) := by decide +kernel
theorem dX1_readFactor_182 : decode cX1_readFactor 182 = .ok (.goto 93, 3) := by decide +kernel
theorem dX1_readFactor_185 : decode cX1_readFactor 185 = .ok (.aload_n 0, 1) := by decide +kernel
theorem dX1_readFactor_186 : decode cX1_readFactor 186 = .ok (.iload_n 2, 1) := by decide +kernel
theorem dX1_readFactor_187 : decode cX1_readFactor 187 = .ok (.iload_n 1, 1) := by decide +kernel
theorem dX1_readFactor_188 : decode cX1_readFactor 188 = .ok (.invokevirtual 195, 3) := by decide +kernel
theorem dX1_readFactor_191 : decode cX1_readFactor 191 = .ok (.ifCond .eq 84, 3) := by decide +kernel
theorem dX1_readFactor_194 : decode cX1_readFactor 194 = .ok (.aload_n 0, 1) := by decide +kernel
theorem dX1_readFactor_195 : decode cX1_readFactor 195 = .ok (.iload_n 1, 1) := by decide +kernel
theorem dX1_readFactor_196 : decode cX1_readFactor 196 = .ok (.iconst 1, 1) := by decide +kernel
theorem dX1_readFactor_197 : decode cX1_readFactor 197 = .ok (.iadd, 1) := by decide +kernel
theorem dX1_readFactor_198 : decode cX1_readFactor 198 = .ok (.invokevirtual 182, 3) := by decide +kernel
theorem dX1_readFactor_201 : decode cX1_readFactor 201 = .ok (.aload_n 0, 1) := by decide +kernel
theorem dX1_readFactor_202 : decode cX1_readFactor 202 = .ok (.getfield 15, 3) := by decide +kernel
theorem dX1_readFactor_205 : decode cX1_readFactor 205 = .ok (.iload_n 2, 1) := by decide +kernel
theorem dX1_readFactor_206 : decode cX1_readFactor 206 = .ok (.bipush 45, 2) := by decide +kernel
theorem dX1_readFactor_208 : decode cX1_readFactor 208 = .ok (.if_icmp .ne 9, 3) := by decide +kernel
theorem dX1_readFactor_211 : decode cX1_readFactor 211 = .ok (.sipush 280, 3) := by decide +kernel
theorem dX1_readFactor_214 : decode cX1_readFactor 214 = .ok (.goto 6, 3) := by decide +kernel
theorem dX1_readFactor_217 : decode cX1_readFactor 217 = .ok (.sipush 269, 3) := by decide +kernel
theorem dX1_readFactor_220 : decode cX1_readFactor 220 = .ok (.lconst 0, 1) := by decide +kernel
theorem dX1_readFactor_221 : decode cX1_readFactor 221 = .ok (.invokevirtual 188, 3) := by decide +kernel
theorem dX1_readFactor_224 : decode cX1_readFactor 224 = .ok (.goto 51, 3) := by decide +kernel
theorem dX1_readFactor_227 : decode cX1_readFactor 227 = .ok (.aload_n 0, 1) := by decide +kernel
theorem dX1_readFactor_228 : decode cX1_readFactor 228 = .ok (.dup, 1) := by decide +kernel
theorem dX1_readFactor_229 : decode cX1_readFactor 229 = .ok (.getfield 43, 3) := by decide +kernel
theorem dX1_readFactor_232 : decode cX1_readFactor 232 = .ok (.iconst 1, 1) := by decide +kernel
theorem dX1_readFactor_233 : decode cX1_readFactor 233 = .ok (.iadd, 1) := by decide +kernel
theorem dX1_readFactor_234 : decode cX1_readFactor 234 = .ok (.putfield 43, 3) := by decide +kernel
theorem dX1_readFactor_237 : decode cX1_readFactor 237 = .ok (.aload_n 0, 1) := by decide +kernel
theorem dX1_readFactor_238 : decode cX1_readFactor 238 = .ok (.iload_n 2, 1) := by decide +kernel
theorem dX1_readFactor_239 : decode cX1_readFactor 239 = .ok (.sipush 272, 3) := by decide +kernel
theorem dX1_readFactor_242 : decode cX1_readFactor 242 = .ok (.if_icmp .ne 7, 3) := by decide +kernel
theorem dX1_readFactor_245 : decode cX1_readFactor 245 = .ok (.iconst 1, 1) := by decide +kernel
theorem dX1_readFactor_246 : decode cX1_readFactor 246 = .ok (.goto 4, 3) := by decide +kernel
theorem dX1_readFactor_249 : decode cX1_readFactor 249 = .ok (.iconst 2, 1) := by decide +kernel
theorem dX1_readFactor_250 : decode cX1_readFactor 250 = .ok (.iload_n 1, 1) := by decide +kernel
theorem dX1_readFactor_251 : decode cX1_readFactor 251 = .ok (.invokevirtual 192, 3) := by decide +kernel
theorem dX1_readFactor_254 : decode cX1_readFactor 254 = .ok (.aload_n 0, 1) := by decide +kernel
theorem dX1_readFactor_255 : decode cX1_readFactor 255 = .ok (.getfield 15, 3) := by decide +kernel
theorem dX1_readFactor_258 : decode cX1_readFactor 258 = .ok (.iload_n 2, 1) := by decide +kernel
theorem dX1_readFactor_259 : decode cX1_readFactor 259 = .ok (.lconst 0, 1) := by decide +kernel
theorem dX1_readFactor_260 : decode cX1_readFactor 260 = .ok (.invokevirtual 188, 3) := by decide +kernel
theorem dX1_readFactor_263 : decode cX1_readFactor 263 = .ok (.goto 12, 3) := by decide +kernel
theorem dX1_readFactor_266 : decode cX1_readFactor 266 = .ok (.aload_n 0, 1) := by decide +kernel
theorem dX1_readFactor_267 : decode cX1_readFactor 267 = .ok (.iconst 1, 1) := by decide +kernel
theorem dX1_readFactor_268 : decode cX1_readFactor 268 = .ok (.aload_n 0, 1) := by decide +kernel
theorem dX1_readFactor_269 : decode cX1_readFactor 269 = .ok (.getfield 43, 3) := by decide +kernel
theorem dX1_readFactor_272 : decode cX1_readFactor 272 = .ok (.invokevirtual 47, 3) := by decide +kernel
theorem dX1_readFactor_275 : decode cX1_readFactor 275 = .ok (.return_, 1) := by decide +kernel
theorem dX1_readBracket_0 : decode cX1_readBracket 0 = .ok (.aload_n 0, 1) := by decide +kernel
theorem dX1_readBracket_1 : decode cX1_readBracket 1 = .ok (.bipush 40, 2) := by decide +kernel
theorem dX1_readBracket_3 : decode cX1_readBracket 3 = .ok (.iload_n 2, 1) := by decide +kernel
theorem dX1_readBracket_4 : decode cX1_readBracket 4 = .ok (.invokevirtual 195, 3) := by decide +kernel
theorem dX1_readBracket_7 : decode cX1_readBracket 7 = .ok (.ifCond .eq 46, 3) := by decide +kernel
theorem dX1_readBracket_10 : decode cX1_readBracket 10 = .ok (.aload_n 0, 1) := by decide +kernel
theorem dX1_readBracket_11 : decode cX1_readBracket 11 = .ok (.iconst 0, 1) := by decide +kernel
theorem dX1_readBracket_12 : decode cX1_readBracket 12 = .ok (.iload_n 2, 1) := by decide +kernel
theorem dX1_readBracket_13 : decode cX1_readBracket 13 = .ok (.iconst 1, 1) := by decide +kernel
theorem dX1_readBracket_14 : decode cX1_readBracket 14 = .ok (.iadd, 1) := by decide +kernel
theorem dX1_readBracket_15 : decode cX1_readBracket 15 = .ok (.invokevirtual 179, 3) := by decide +kernel
theorem dX1_readBracket_18 : decode cX1_readBracket 18 = .ok (.iconst 1, 1) := by decide +kernel
theorem dX1_readBracket_19 : decode cX1_readBracket 19 = .ok (.istore_n 3, 1) := by decide +kernel
theorem dX1_readBracket_20 : decode cX1_readBracket 20 = .ok (.iload_n 3, 1) := by decide +kernel
theorem dX1_readBracket_21 : decode cX1_readBracket 21 = .ok (.iload_n 1, 1) := by decide +kernel
theorem dX1_readBracket_22 : decode cX1_readBracket 22 = .ok (.if_icmp .ge 24, 3) := by decide +kernel
theorem dX1_readBracket_25 : decode cX1_readBracket 25 = .ok (.aload_n 0, 1) := by decide +kernel
theorem dX1_readBracket_26 : decode cX1_readBracket 26 = .ok (.bipush 44, 2) := by decide +kernel
theorem dX1_readBracket_28 : decode cX1_readBracket 28 = .ok (.invokevirtual 89, 3) := by decide +kernel
theorem dX1_readBracket_31 : decode cX1_readBracket 31 = .ok (.pop, 1) := by decide +kernel
theorem dX1_readBracket_32 : decode cX1_readBracket 32 = .ok (.aload_n 0, 1) := by decide +kernel
theorem dX1_readBracket_33 : decode cX1_readBracket 33 = .ok (.iconst 0, 1) := by decide +kernel
theorem dX1_readBracket_34 : decode cX1_readBracket 34 = .ok (.iload_n 2, 1) := by decide +kernel
theorem dX1_readBracket_35 : decode cX1_readBracket 35 = .ok (.iconst 1, 1) := by decide +kernel
theorem dX1_readBracket_36 : decode cX1_readBracket 36 = .ok (.iadd, 1) := by decide +kernel
theorem dX1_readBracket_37 : decode cX1_readBracket 37 = .ok (.invokevirtual 179, 3) := by decide +kernel
theorem dX1_readBracket_40 : decode cX1_readBracket 40 = .ok (.iinc 3 1, 3) := by decide +kernel
theorem dX1_readBracket_43 : decode cX1_readBracket 43 = .ok (.goto (-23), 3) := by decide +kernel
theorem dX1_readBracket_46 : decode cX1_readBracket 46 = .ok (.aload_n 0, 1) := by decide +kernel
theorem dX1_readBracket_47 : decode cX1_readBracket 47 = .ok (.bipush 41, 2) := by decide +kernel
theorem dX1_readBracket_49 : decode cX1_readBracket 49 = .ok (.invokevirtual 89, 3) := by decide +kernel
theorem dX1_readBracket_52 : decode cX1_readBracket 52 = .ok (.pop, 1) := by decide +kernel
theorem dX1_readBracket_53 : decode cX1_readBracket 53 = .ok (.return_, 1) := by decide +kernel
theorem dX1_levelOf_0 : decode cX1_levelOf 0 = .ok (.iload_n 0, 1) := by decide +kernel
theorem dX1_levelOf_1 : decode cX1_levelOf 1 = .ok (.lookupswitch 125 #[(37, 123), (42, 123), (43, 121), (45, 121), (47, 123), (60, 119), (61, 119), (62, 119), (267, 117), (268, 115), (275, 119), (276, 119), (277, 119)], 115) := by decide +kernel
theorem dX1_levelOf_116 : decode cX1_levelOf 116 = .ok (.iconst 0, 1) := by decide +kernel
theorem dX1_levelOf_117 : decode cX1_levelOf 117 = .ok (.ireturn, 1) := by decide +kernel
theorem dX1_levelOf_118 : decode cX1_levelOf 118 = .ok (.iconst 1, 1) := by decide +kernel
theorem dX1_levelOf_119 : decode cX1_levelOf 119 = .ok (.ireturn, 1) := by decide +kernel
theorem dX1_levelOf_120 : decode cX1_levelOf 120 = .ok (.iconst 2, 1) := by decide +kernel
theorem dX1_levelOf_121 : decode cX1_levelOf 121 = .ok (.ireturn, 1) := by decide +kernel
theorem dX1_levelOf_122 : decode cX1_levelOf 122 = .ok (.iconst 3, 1) := by decide +kernel
theorem dX1_levelOf_123 : decode cX1_levelOf 123 = .ok (.ireturn, 1) := by decide +kernel
theorem dX1_levelOf_124 : decode cX1_levelOf 124 = .ok (.iconst 4, 1) := by decide +kernel
theorem dX1_levelOf_125 : decode cX1_levelOf 125 = .ok (.ireturn, 1) := by decide +kernel
theorem dX1_levelOf_126 : decode cX1_levelOf 126 = .ok (.iconst (-1), 1) := by decide +kernel
theorem dX1_levelOf_127 : decode cX1_levelOf 127 = .ok (.ireturn, 1) := by decide +kernel
theorem dX1_commandNamed_0 : decode cX1_commandNamed 0 = .ok (.iconst 0, 1) := by decide +kernel
theorem dX1_commandNamed_1 : decode cX1_commandNamed 1 = .ok (.istore_n 3, 1) := by decide +kernel
theorem dX1_commandNamed_2 : decode cX1_commandNamed 2 = .ok (.iconst 0, 1) := by decide +kernel
theorem dX1_commandNamed_3 : decode cX1_commandNamed 3 = .ok (.istore 4, 2) := by decide +kernel
theorem dX1_commandNamed_5 : decode cX1_commandNamed 5 = .ok (.iload 4, 2) := by decide +kernel
theorem dX1_commandNamed_7 : decode cX1_commandNamed 7 = .ok (.iconst 1, 1) := by decide +kernel
theorem dX1_commandNamed_8 : decode cX1_commandNamed 8 = .ok (.iadd, 1) := by decide +kernel
theorem dX1_commandNamed_9 : decode cX1_commandNamed 9 = .ok (.aload_n 0, 1) := by decide +kernel
theorem dX1_commandNamed_10 : decode cX1_commandNamed 10 = .ok (.getfield 9, 3) := by decide +kernel
theorem dX1_commandNamed_13 : decode cX1_commandNamed 13 = .ok (.getfield 73, 3) := by decide +kernel
theorem dX1_commandNamed_16 : decode cX1_commandNamed 16 = .ok (.if_icmp .ge 45, 3) := by decide +kernel
theorem dX1_commandNamed_19 : decode cX1_commandNamed 19 = .ok (.aload_n 0, 1) := by decide +kernel
theorem dX1_commandNamed_20 : decode cX1_commandNamed 20 = .ok (.getfield 9, 3) := by decide +kernel
theorem dX1_commandNamed_23 : decode cX1_commandNamed 23 = .ok (.iload 4, 2) := by decide +kernel
theorem dX1_commandNamed_25 : decode cX1_commandNamed 25 = .ok (.invokevirtual 167, 3) := by decide +kernel
theorem dX1_commandNamed_28 : decode cX1_commandNamed 28 = .ok (.sipush 262, 3) := by decide +kernel
theorem dX1_commandNamed_31 : decode cX1_commandNamed 31 = .ok (.if_icmp .ne 24, 3) := by decide +kernel
theorem dX1_commandNamed_34 : decode cX1_commandNamed 34 = .ok (.aload_n 0, 1) := by decide +kernel
theorem dX1_commandNamed_35 : decode cX1_commandNamed 35 = .ok (.getfield 9, 3) := by decide +kernel
theorem dX1_commandNamed_38 : decode cX1_commandNamed 38 = .ok (.iload 4, 2) := by decide +kernel
theorem dX1_commandNamed_40 : decode cX1_commandNamed 40 = .ok (.iconst 1, 1) := by decide +kernel
theorem dX1_commandNamed_41 : decode cX1_commandNamed 41 = .ok (.iadd, 1) := by decide +kernel
theorem dX1_commandNamed_42 : decode cX1_commandNamed 42 = .ok (.invokevirtual 107, 3) := by decide +kernel
theorem dX1_commandNamed_45 : decode cX1_commandNamed 45 = .ok (.lload_n 1, 1) := by decide +kernel
theorem dX1_commandNamed_46 : decode cX1_commandNamed 46 = .ok (.lcmp, 1) := by decide +kernel
theorem dX1_commandNamed_47 : decode cX1_commandNamed 47 = .ok (.ifCond .ne 5, 3) := by decide +kernel
theorem dX1_commandNamed_50 : decode cX1_commandNamed 50 = .ok (.iload_n 3, 1) := by decide +kernel
theorem dX1_commandNamed_51 : decode cX1_commandNamed 51 = .ok (.ireturn, 1) := by decide +kernel
theorem dX1_commandNamed_52 : decode cX1_commandNamed 52 = .ok (.iinc 3 1, 3) := by decide +kernel
theorem dX1_commandNamed_55 : decode cX1_commandNamed 55 = .ok (.iinc 4 1, 3) := by decide +kernel
theorem dX1_commandNamed_58 : decode cX1_commandNamed 58 = .ok (.goto (-53), 3) := by decide +kernel
theorem dX1_commandNamed_61 : decode cX1_commandNamed 61 = .ok (.iconst (-1), 1) := by decide +kernel
theorem dX1_commandNamed_62 : decode cX1_commandNamed 62 = .ok (.ireturn, 1) := by decide +kernel
theorem dX1_look_0 : decode cX1_look 0 = .ok (.aload_n 0, 1) := by decide +kernel
theorem dX1_look_1 : decode cX1_look 1 = .ok (.getfield 51, 3) := by decide +kernel
theorem dX1_look_4 : decode cX1_look 4 = .ok (.ifCond .ne 33, 3) := by decide +kernel
theorem dX1_look_7 : decode cX1_look 7 = .ok (.aload_n 0, 1) := by decide +kernel
theorem dX1_look_8 : decode cX1_look 8 = .ok (.getfield 43, 3) := by decide +kernel
theorem dX1_look_11 : decode cX1_look 11 = .ok (.aload_n 0, 1) := by decide +kernel
theorem dX1_look_12 : decode cX1_look 12 = .ok (.getfield 78, 3) := by decide +kernel
theorem dX1_look_15 : decode cX1_look 15 = .ok (.if_icmp .ge 22, 3) := by decide +kernel
theorem dX1_look_18 : decode cX1_look 18 = .ok (.aload_n 0, 1) := by decide +kernel
theorem dX1_look_19 : decode cX1_look 19 = .ok (.getfield 43, 3) := by decide +kernel
theorem dX1_look_22 : decode cX1_look 22 = .ok (.aload_n 0, 1) := by decide +kernel
theorem dX1_look_23 : decode cX1_look 23 = .ok (.getfield 9, 3) := by decide +kernel
theorem dX1_look_26 : decode cX1_look 26 = .ok (.getfield 199, 3) := by decide +kernel
theorem dX1_look_29 : decode cX1_look 29 = .ok (.arraylength, 1) := by decide +kernel
theorem dX1_look_30 : decode cX1_look 30 = .ok (.if_icmp .ge 7, 3) := by decide +kernel
theorem dX1_look_33 : decode cX1_look 33 = .ok (.iconst 1, 1) := by decide +kernel
theorem dX1_look_34 : decode cX1_look 34 = .ok (.goto 4, 3) := by decide +kernel
theorem dX1_look_37 : decode cX1_look 37 = .ok (.iconst 0, 1) := by decide +kernel
theorem dX1_look_38 : decode cX1_look 38 = .ok (.istore_n 1, 1) := by decide +kernel
theorem dX1_look_39 : decode cX1_look 39 = .ok (.iload_n 1, 1) := by decide +kernel
theorem dX1_look_40 : decode cX1_look 40 = .ok (.ifCond .eq 18, 3) := by decide +kernel
theorem dX1_look_43 : decode cX1_look 43 = .ok (.aload_n 0, 1) := by decide +kernel
theorem dX1_look_44 : decode cX1_look 44 = .ok (.getfield 9, 3) := by decide +kernel
theorem dX1_look_47 : decode cX1_look 47 = .ok (.getfield 199, 3) := by decide +kernel
theorem dX1_look_50 : decode cX1_look 50 = .ok (.aload_n 0, 1) := by decide +kernel
theorem dX1_look_51 : decode cX1_look 51 = .ok (.getfield 43, 3) := by decide +kernel
theorem dX1_look_54 : decode cX1_look 54 = .ok (.iaload, 1) := by decide +kernel
theorem dX1_look_55 : decode cX1_look 55 = .ok (.goto 6, 3) := by decide +kernel
theorem dX1_look_58 : decode cX1_look 58 = .ok (.sipush 279, 3) := by decide +kernel
theorem dX1_look_61 : decode cX1_look 61 = .ok (.ireturn, 1) := by decide +kernel
theorem dX1_accept_0 : decode cX1_accept 0 = .ok (.aload_n 0, 1) := by decide +kernel
theorem dX1_accept_1 : decode cX1_accept 1 = .ok (.invokevirtual 27, 3) := by decide +kernel
theorem dX1_accept_4 : decode cX1_accept 4 = .ok (.iload_n 1, 1) := by decide +kernel
theorem dX1_accept_5 : decode cX1_accept 5 = .ok (.if_icmp .eq 5, 3) := by decide +kernel
theorem dX1_accept_8 : decode cX1_accept 8 = .ok (.iconst 0, 1) := by decide +kernel
theorem dX1_accept_9 : decode cX1_accept 9 = .ok (.ireturn, 1) := by decide +kernel
theorem dX1_accept_10 : decode cX1_accept 10 = .ok (.aload_n 0, 1) := by decide +kernel
theorem dX1_accept_11 : decode cX1_accept 11 = .ok (.dup, 1) := by decide +kernel
theorem dX1_accept_12 : decode cX1_accept 12 = .ok (.getfield 43, 3) := by decide +kernel
theorem dX1_accept_15 : decode cX1_accept 15 = .ok (.iconst 1, 1) := by decide +kernel
theorem dX1_accept_16 : decode cX1_accept 16 = .ok (.iadd, 1) := by decide +kernel
theorem dX1_accept_17 : decode cX1_accept 17 = .ok (.putfield 43, 3) := by decide +kernel
theorem dX1_accept_20 : decode cX1_accept 20 = .ok (.iconst 1, 1) := by decide +kernel
theorem dX1_accept_21 : decode cX1_accept 21 = .ok (.ireturn, 1) := by decide +kernel
theorem dX1_expect_0 : decode cX1_expect 0 = .ok (.aload_n 0, 1) := by decide +kernel
theorem dX1_expect_1 : decode cX1_expect 1 = .ok (.getfield 43, 3) := by decide +kernel
theorem dX1_expect_4 : decode cX1_expect 4 = .ok (.istore_n 2, 1) := by decide +kernel
theorem dX1_expect_5 : decode cX1_expect 5 = .ok (.aload_n 0, 1) := by decide +kernel
theorem dX1_expect_6 : decode cX1_expect 6 = .ok (.invokevirtual 27, 3) := by decide +kernel
theorem dX1_expect_9 : decode cX1_expect 9 = .ok (.iload_n 1, 1) := by decide +kernel
theorem dX1_expect_10 : decode cX1_expect 10 = .ok (.if_icmp .ne 16, 3) := by decide +kernel
theorem dX1_expect_13 : decode cX1_expect 13 = .ok (.aload_n 0, 1) := by decide +kernel
theorem dX1_expect_14 : decode cX1_expect 14 = .ok (.dup, 1) := by decide +kernel
theorem dX1_expect_15 : decode cX1_expect 15 = .ok (.getfield 43, 3) := by decide +kernel
theorem dX1_expect_18 : decode cX1_expect 18 = .ok (.iconst 1, 1) := by decide +kernel
theorem dX1_expect_19 : decode cX1_expect 19 = .ok (.iadd, 1) := by decide +kernel
theorem dX1_expect_20 : decode cX1_expect 20 = .ok (.putfield 43, 3) := by decide +kernel
theorem dX1_expect_23 : decode cX1_expect 23 = .ok (.goto 9, 3) := by decide +kernel
theorem dX1_expect_26 : decode cX1_expect 26 = .ok (.aload_n 0, 1) := by decide +kernel
theorem dX1_expect_27 : decode cX1_expect 27 = .ok (.iconst 1, 1) := by decide +kernel
theorem dX1_expect_28 : decode cX1_expect 28 = .ok (.iload_n 2, 1) := by decide +kernel
theorem dX1_expect_29 : decode cX1_expect 29 = .ok (.invokevirtual 47, 3) := by decide +kernel
theorem dX1_expect_32 : decode cX1_expect 32 = .ok (.iload_n 2, 1) := by decide +kernel
theorem dX1_expect_33 : decode cX1_expect 33 = .ok (.ireturn, 1) := by decide +kernel
theorem dX1_acceptDeeper_0 : decode cX1_acceptDeeper 0 = .ok (.aload_n 0, 1) := by decide +kernel
theorem dX1_acceptDeeper_1 : decode cX1_acceptDeeper 1 = .ok (.invokevirtual 27, 3) := by decide +kernel
theorem dX1_acceptDeeper_4 : decode cX1_acceptDeeper 4 = .ok (.iload_n 1, 1) := by decide +kernel
theorem dX1_acceptDeeper_5 : decode cX1_acceptDeeper 5 = .ok (.if_icmp .ne 9, 3) := by decide +kernel
theorem dX1_acceptDeeper_8 : decode cX1_acceptDeeper 8 = .ok (.iload_n 2, 1) := by decide +kernel
theorem dX1_acceptDeeper_9 : decode cX1_acceptDeeper 9 = .ok (.bipush 8, 2) := by decide +kernel
theorem dX1_acceptDeeper_11 : decode cX1_acceptDeeper 11 = .ok (.if_icmp .lt 14, 3) := by decide +kernel
theorem dX1_acceptDeeper_14 : decode cX1_acceptDeeper 14 = .ok (.aload_n 0, 1) := by decide +kernel
theorem dX1_acceptDeeper_15 : decode cX1_acceptDeeper 15 = .ok (.iconst 1, 1) := by decide +kernel
theorem dX1_acceptDeeper_16 : decode cX1_acceptDeeper 16 = .ok (.aload_n 0, 1) := by decide +kernel
theorem dX1_acceptDeeper_17 : decode cX1_acceptDeeper 17 = .ok (.getfield 43, 3) := by decide +kernel
theorem dX1_acceptDeeper_20 : decode cX1_acceptDeeper 20 = .ok (.invokevirtual 47, 3) := by decide +kernel
theorem dX1_acceptDeeper_23 : decode cX1_acceptDeeper 23 = .ok (.iconst 0, 1) := by decide +kernel
theorem dX1_acceptDeeper_24 : decode cX1_acceptDeeper 24 = .ok (.ireturn, 1) := by decide +kernel
theorem dX1_acceptDeeper_25 : decode cX1_acceptDeeper 25 = .ok (.aload_n 0, 1) := by decide +kernel
theorem dX1_acceptDeeper_26 : decode cX1_acceptDeeper 26 = .ok (.dup, 1) := by decide +kernel
theorem dX1_acceptDeeper_27 : decode cX1_acceptDeeper 27 = .ok (.getfield 43, 3) := by decide +kernel
theorem dX1_acceptDeeper_30 : decode cX1_acceptDeeper 30 = .ok (.iconst 1, 1) := by decide +kernel
theorem dX1_acceptDeeper_31 : decode cX1_acceptDeeper 31 = .ok (.iadd, 1) := by decide +kernel
theorem dX1_acceptDeeper_32 : decode cX1_acceptDeeper 32 = .ok (.putfield 43, 3) := by decide +kernel
theorem dX1_acceptDeeper_35 : decode cX1_acceptDeeper 35 = .ok (.iconst 1, 1) := by decide +kernel
theorem dX1_acceptDeeper_36 : decode cX1_acceptDeeper 36 = .ok (.ireturn, 1) := by decide +kernel
theorem dX1_isMeaningRight_0 : decode cX1_isMeaningRight 0 = .ok (.aload_n 0, 1) := by decide +kernel
theorem dX1_isMeaningRight_1 : decode cX1_isMeaningRight 1 = .ok (.getfield 69, 3) := by decide +kernel
theorem dX1_isMeaningRight_4 : decode cX1_isMeaningRight 4 = .ok (.ifCond .eq 14, 3) := by decide +kernel
theorem dX1_isMeaningRight_7 : decode cX1_isMeaningRight 7 = .ok (.aload_n 0, 1) := by decide +kernel
theorem dX1_isMeaningRight_8 : decode cX1_isMeaningRight 8 = .ok (.getfield 51, 3) := by decide +kernel
theorem dX1_isMeaningRight_11 : decode cX1_isMeaningRight 11 = .ok (.ifCond .ne 7, 3) := by decide +kernel
theorem dX1_isMeaningRight_14 : decode cX1_isMeaningRight 14 = .ok (.iconst 1, 1) := by decide +kernel
theorem dX1_isMeaningRight_15 : decode cX1_isMeaningRight 15 = .ok (.goto 4, 3) := by decide +kernel
theorem dX1_isMeaningRight_18 : decode cX1_isMeaningRight 18 = .ok (.iconst 0, 1) := by decide +kernel
theorem dX1_isMeaningRight_19 : decode cX1_isMeaningRight 19 = .ok (.ireturn, 1) := by decide +kernel
theorem dX1_demandNewName_0 : decode cX1_demandNewName 0 = .ok (.aload_n 0, 1) := by decide +kernel
theorem dX1_demandNewName_1 : decode cX1_demandNewName 1 = .ok (.aload_n 0, 1) := by decide +kernel
theorem dX1_demandNewName_2 : decode cX1_demandNewName 2 = .ok (.getfield 19, 3) := by decide +kernel
theorem dX1_demandNewName_5 : decode cX1_demandNewName 5 = .ok (.aload_n 0, 1) := by decide +kernel
theorem dX1_demandNewName_6 : decode cX1_demandNewName 6 = .ok (.getfield 9, 3) := by decide +kernel
theorem dX1_demandNewName_9 : decode cX1_demandNewName 9 = .ok (.iload_n 1, 1) := by decide +kernel
theorem dX1_demandNewName_10 : decode cX1_demandNewName 10 = .ok (.invokevirtual 107, 3) := by decide +kernel
theorem dX1_demandNewName_13 : decode cX1_demandNewName 13 = .ok (.invokevirtual 202, 3) := by decide +kernel
theorem dX1_demandNewName_16 : decode cX1_demandNewName 16 = .ok (.ifCond .ne 7, 3) := by decide +kernel
theorem dX1_demandNewName_19 : decode cX1_demandNewName 19 = .ok (.iconst 1, 1) := by decide +kernel
theorem dX1_demandNewName_20 : decode cX1_demandNewName 20 = .ok (.goto 4, 3) := by decide +kernel
theorem dX1_demandNewName_23 : decode cX1_demandNewName 23 = .ok (.iconst 0, 1) := by decide +kernel
theorem dX1_demandNewName_24 : decode cX1_demandNewName 24 = .ok (.iconst 3, 1) := by decide +kernel
theorem dX1_demandNewName_25 : decode cX1_demandNewName 25 = .ok (.iload_n 1, 1) := by decide +kernel
theorem dX1_demandNewName_26 : decode cX1_demandNewName 26 = .ok (.invokevirtual 62, 3) := by decide +kernel
theorem dX1_demandNewName_29 : decode cX1_demandNewName 29 = .ok (.return_, 1) := by decide +kernel
theorem dX1_demand_0 : decode cX1_demand 0 = .ok (.aload_n 0, 1) := by decide +kernel
theorem dX1_demand_1 : decode cX1_demand 1 = .ok (.getfield 69, 3) := by decide +kernel
theorem dX1_demand_4 : decode cX1_demand 4 = .ok (.ifCond .eq 13, 3) := by decide +kernel
theorem dX1_demand_7 : decode cX1_demand 7 = .ok (.iload_n 1, 1) := by decide +kernel
theorem dX1_demand_8 : decode cX1_demand 8 = .ok (.ifCond .ne 9, 3) := by decide +kernel
theorem dX1_demand_11 : decode cX1_demand 11 = .ok (.aload_n 0, 1) := by decide +kernel
theorem dX1_demand_12 : decode cX1_demand 12 = .ok (.iload_n 2, 1) := by decide +kernel
theorem dX1_demand_13 : decode cX1_demand 13 = .ok (.iload_n 3, 1) := by decide +kernel
theorem dX1_demand_14 : decode cX1_demand 14 = .ok (.invokevirtual 47, 3) := by decide +kernel
theorem dX1_demand_17 : decode cX1_demand 17 = .ok (.return_, 1) := by decide +kernel
theorem dX1_fail_0 : decode cX1_fail 0 = .ok (.aload_n 0, 1) := by decide +kernel
theorem dX1_fail_1 : decode cX1_fail 1 = .ok (.getfield 51, 3) := by decide +kernel
theorem dX1_fail_4 : decode cX1_fail 4 = .ok (.ifCond .ne 37, 3) := by decide +kernel
theorem dX1_fail_7 : decode cX1_fail 7 = .ok (.aload_n 0, 1) := by decide +kernel
theorem dX1_fail_8 : decode cX1_fail 8 = .ok (.iload_n 1, 1) := by decide +kernel
theorem dX1_fail_9 : decode cX1_fail 9 = .ok (.putfield 51, 3) := by decide +kernel
theorem dX1_fail_12 : decode cX1_fail 12 = .ok (.aload_n 0, 1) := by decide +kernel
theorem dX1_fail_13 : decode cX1_fail 13 = .ok (.iload_n 2, 1) := by decide +kernel
theorem dX1_fail_14 : decode cX1_fail 14 = .ok (.aload_n 0, 1) := by decide +kernel
theorem dX1_fail_15 : decode cX1_fail 15 = .ok (.getfield 9, 3) := by decide +kernel
theorem dX1_fail_18 : decode cX1_fail 18 = .ok (.getfield 133, 3) := by decide +kernel
theorem dX1_fail_21 : decode cX1_fail 21 = .ok (.arraylength, 1) := by decide +kernel
theorem dX1_fail_22 : decode cX1_fail 22 = .ok (.if_icmp .ge 15, 3) := by decide +kernel
theorem dX1_fail_25 : decode cX1_fail 25 = .ok (.aload_n 0, 1) := by decide +kernel
theorem dX1_fail_26 : decode cX1_fail 26 = .ok (.getfield 9, 3) := by decide +kernel
theorem dX1_fail_29 : decode cX1_fail 29 = .ok (.getfield 133, 3) := by decide +kernel
theorem dX1_fail_32 : decode cX1_fail 32 = .ok (.iload_n 2, 1) := by decide +kernel
theorem dX1_fail_33 : decode cX1_fail 33 = .ok (.iaload, 1) := by decide +kernel
theorem dX1_fail_34 : decode cX1_fail 34 = .ok (.goto 4, 3) := by decide +kernel
theorem dX1_fail_37 : decode cX1_fail 37 = .ok (.iconst (-1), 1) := by decide +kernel
theorem dX1_fail_38 : decode cX1_fail 38 = .ok (.putfield 81, 3) := by decide +kernel
theorem dX1_fail_41 : decode cX1_fail 41 = .ok (.return_, 1) := by decide +kernel
theorem dX2_init_0 : decode cX2_init 0 = .ok (.aload_n 0, 1) := by decide +kernel
theorem dX2_init_1 : decode cX2_init 1 = .ok (.invokespecial 3, 3) := by decide +kernel
theorem dX2_init_4 : decode cX2_init 4 = .ok (.aload_n 0, 1) := by decide +kernel
theorem dX2_init_5 : decode cX2_init 5 = .ok (.bipush 100, 2) := by decide +kernel
theorem dX2_init_7 : decode cX2_init 7 = .ok (.newarray .long, 2) := by decide +kernel
theorem dX2_init_9 : decode cX2_init 9 = .ok (.putfield 9, 3) := by decide +kernel
theorem dX2_init_12 : decode cX2_init 12 = .ok (.aload_n 0, 1) := by decide +kernel
theorem dX2_init_13 : decode cX2_init 13 = .ok (.bipush 100, 2) := by decide +kernel
theorem dX2_init_15 : decode cX2_init 15 = .ok (.newarray .long, 2) := by decide +kernel
theorem dX2_init_17 : decode cX2_init 17 = .ok (.putfield 15, 3) := by decide +kernel
theorem dX2_init_20 : decode cX2_init 20 = .ok (.aload_n 0, 1) := by decide +kernel
theorem dX2_init_21 : decode cX2_init 21 = .ok (.aload_n 1, 1) := by decide +kernel
theorem dX2_init_22 : decode cX2_init 22 = .ok (.putfield 18, 3) := by decide +kernel
theorem dX2_init_25 : decode cX2_init 25 = .ok (.return_, 1) := by decide +kernel
theorem dX2_plan_0 : decode cX2_plan 0 = .ok (.iconst 1, 1) := by decide +kernel
theorem dX2_plan_1 : decode cX2_plan 1 = .ok (.istore_n 2, 1) := by decide +kernel
theorem dX2_plan_2 : decode cX2_plan 2 = .ok (.iload_n 2, 1) := by decide +kernel
theorem dX2_plan_3 : decode cX2_plan 3 = .ok (.aload_n 1, 1) := by decide +kernel
theorem dX2_plan_4 : decode cX2_plan 4 = .ok (.getfield 22, 3) := by decide +kernel
theorem dX2_plan_7 : decode cX2_plan 7 = .ok (.if_icmp .gt 41, 3) := by decide +kernel
theorem dX2_plan_10 : decode cX2_plan 10 = .ok (.iload_n 2, 1) := by decide +kernel
theorem dX2_plan_11 : decode cX2_plan 11 = .ok (.bipush 30, 2) := by decide +kernel
theorem dX2_plan_13 : decode cX2_plan 13 = .ok (.if_icmp .gt 35, 3) := by decide +kernel
theorem dX2_plan_16 : decode cX2_plan 16 = .ok (.iconst 0, 1) := by decide +kernel
theorem dX2_plan_17 : decode cX2_plan 17 = .ok (.istore_n 3, 1) := by decide +kernel
theorem dX2_plan_18 : decode cX2_plan 18 = .ok (.iload_n 3, 1) := by decide +kernel
theorem dX2_plan_19 : decode cX2_plan 19 = .ok (.aload_n 0, 1) := by decide +kernel
theorem dX2_plan_20 : decode cX2_plan 20 = .ok (.getfield 18, 3) := by decide +kernel
theorem dX2_plan_23 : decode cX2_plan 23 = .ok (.getfield 28, 3) := by decide +kernel
theorem dX2_plan_26 : decode cX2_plan 26 = .ok (.if_icmp .ge 16, 3) := by decide +kernel
theorem dX2_plan_29 : decode cX2_plan 29 = .ok (.aload_n 0, 1) := by decide +kernel
theorem dX2_plan_30 : decode cX2_plan 30 = .ok (.aload_n 1, 1) := by decide +kernel
theorem dX2_plan_31 : decode cX2_plan 31 = .ok (.iload_n 3, 1) := by decide +kernel
theorem dX2_plan_32 : decode cX2_plan 32 = .ok (.iload_n 2, 1) := by decide +kernel
theorem dX2_plan_33 : decode cX2_plan 33 = .ok (.invokevirtual 33, 3) := by decide +kernel
theorem dX2_plan_36 : decode cX2_plan 36 = .ok (.iinc 3 1, 3) := by decide +kernel
theorem dX2_plan_39 : decode cX2_plan 39 = .ok (.goto (-21), 3) := by decide +kernel
theorem dX2_plan_42 : decode cX2_plan 42 = .ok (.iinc 2 1, 3) := by decide +kernel
theorem dX2_plan_45 : decode cX2_plan 45 = .ok (.goto (-43), 3) := by decide +kernel
theorem dX2_plan_48 : decode cX2_plan 48 = .ok (.iconst 0, 1) := by decide +kernel
theorem dX2_plan_49 : decode cX2_plan 49 = .ok (.istore_n 2, 1) := by decide +kernel
theorem dX2_plan_50 : decode cX2_plan 50 = .ok (.iload_n 2, 1) := by decide +kernel
theorem dX2_plan_51 : decode cX2_plan 51 = .ok (.aload_n 0, 1) := by decide +kernel
theorem dX2_plan_52 : decode cX2_plan 52 = .ok (.getfield 18, 3) := by decide +kernel
theorem dX2_plan_55 : decode cX2_plan 55 = .ok (.getfield 37, 3) := by decide +kernel
theorem dX2_plan_58 : decode cX2_plan 58 = .ok (.getfield 41, 3) := by decide +kernel
theorem dX2_plan_61 : decode cX2_plan 61 = .ok (.if_icmp .ge 21, 3) := by decide +kernel
theorem dX2_plan_64 : decode cX2_plan 64 = .ok (.aload_n 1, 1) := by decide +kernel
theorem dX2_plan_65 : decode cX2_plan 65 = .ok (.getfield 46, 3) := by decide +kernel
theorem dX2_plan_68 : decode cX2_plan 68 = .ok (.iload_n 2, 1) := by decide +kernel
theorem dX2_plan_69 : decode cX2_plan 69 = .ok (.aload_n 0, 1) := by decide +kernel
theorem dX2_plan_70 : decode cX2_plan 70 = .ok (.aload_n 1, 1) := by decide +kernel
theorem dX2_plan_71 : decode cX2_plan 71 = .ok (.iload_n 2, 1) := by decide +kernel
theorem dX2_plan_72 : decode cX2_plan 72 = .ok (.invokevirtual 49, 3) := by decide +kernel
theorem dX2_plan_75 : decode cX2_plan 75 = .ok (.lastore, 1) := by decide +kernel
theorem dX2_plan_76 : decode cX2_plan 76 = .ok (.iinc 2 1, 3) := by decide +kernel
theorem dX2_plan_79 : decode cX2_plan 79 = .ok (.goto (-29), 3) := by decide +kernel
theorem dX2_plan_82 : decode cX2_plan 82 = .ok (.aload_n 1, 1) := by decide +kernel
theorem dX2_plan_83 : decode cX2_plan 83 = .ok (.aload_n 0, 1) := by decide +kernel
theorem dX2_plan_84 : decode cX2_plan 84 = .ok (.aload_n 1, 1) := by decide +kernel
theorem dX2_plan_85 : decode cX2_plan 85 = .ok (.invokevirtual 53, 3) := by decide +kernel
theorem dX2_plan_88 : decode cX2_plan 88 = .ok (.putfield 57, 3) := by decide +kernel
theorem dX2_plan_91 : decode cX2_plan 91 = .ok (.return_, 1) := by decide +kernel
theorem dX2_extremeChance_0 : decode cX2_extremeChance 0 = .ok (.aload_n 0, 1) := by decide +kernel
theorem dX2_extremeChance_1 : decode cX2_extremeChance 1 = .ok (.invokevirtual 60, 3) := by decide +kernel
theorem dX2_extremeChance_4 : decode cX2_extremeChance 4 = .ok (.iconst 1, 1) := by decide +kernel
theorem dX2_extremeChance_5 : decode cX2_extremeChance 5 = .ok (.istore_n 3, 1) := by decide +kernel
theorem dX2_extremeChance_6 : decode cX2_extremeChance 6 = .ok (.iload_n 3, 1) := by decide +kernel
theorem dX2_extremeChance_7 : decode cX2_extremeChance 7 = .ok (.iload_n 1, 1) := by decide +kernel
theorem dX2_extremeChance_8 : decode cX2_extremeChance 8 = .ok (.if_icmp .gt 48, 3) := by decide +kernel
theorem dX2_extremeChance_11 : decode cX2_extremeChance 11 = .ok (.iconst 0, 1) := by decide +kernel
theorem dX2_extremeChance_12 : decode cX2_extremeChance 12 = .ok (.istore 4, 2) := by decide +kernel
theorem dX2_extremeChance_14 : decode cX2_extremeChance 14 = .ok (.iload 4, 2) := by decide +kernel
theorem dX2_extremeChance_16 : decode cX2_extremeChance 16 = .ok (.aload_n 0, 1) := by decide +kernel
theorem dX2_extremeChance_17 : decode cX2_extremeChance 17 = .ok (.getfield 18, 3) := by decide +kernel
theorem dX2_extremeChance_20 : decode cX2_extremeChance 20 = .ok (.getfield 28, 3) := by decide +kernel
theorem dX2_extremeChance_23 : decode cX2_extremeChance 23 = .ok (.if_icmp .ge 23, 3) := by decide +kernel
theorem dX2_extremeChance_26 : decode cX2_extremeChance 26 = .ok (.aload_n 0, 1) := by decide +kernel
theorem dX2_extremeChance_27 : decode cX2_extremeChance 27 = .ok (.getfield 15, 3) := by decide +kernel
theorem dX2_extremeChance_30 : decode cX2_extremeChance 30 = .ok (.iload 4, 2) := by decide +kernel
theorem dX2_extremeChance_32 : decode cX2_extremeChance 32 = .ok (.aload_n 0, 1) := by decide +kernel
theorem dX2_extremeChance_33 : decode cX2_extremeChance 33 = .ok (.iload 4, 2) := by decide +kernel
theorem dX2_extremeChance_35 : decode cX2_extremeChance 35 = .ok (.iload_n 2, 1) := by decide +kernel
theorem dX2_extremeChance_36 : decode cX2_extremeChance 36 = .ok (.invokevirtual 63, 3) := by decide +kernel
theorem dX2_extremeChance_39 : decode cX2_extremeChance 39 = .ok (.lastore, 1) := by decide +kernel
theorem dX2_extremeChance_40 : decode cX2_extremeChance 40 = .ok (.iinc 4 1, 3) := by decide +kernel
theorem dX2_extremeChance_43 : decode cX2_extremeChance 43 = .ok (.goto (-29), 3) := by decide +kernel
theorem dX2_extremeChance_46 : decode cX2_extremeChance 46 = .ok (.aload_n 0, 1) := by decide +kernel
theorem dX2_extremeChance_47 : decode cX2_extremeChance 47 = .ok (.invokevirtual 67, 3) := by decide +kernel
theorem dX2_extremeChance_50 : decode cX2_extremeChance 50 = .ok (.iinc 3 1, 3) := by decide +kernel
theorem dX2_extremeChance_53 : decode cX2_extremeChance 53 = .ok (.goto (-47), 3) := by decide +kernel
theorem dX2_extremeChance_56 : decode cX2_extremeChance 56 = .ok (.aload_n 0, 1) := by decide +kernel
theorem dX2_extremeChance_57 : decode cX2_extremeChance 57 = .ok (.getfield 9, 3) := by decide +kernel
theorem dX2_extremeChance_60 : decode cX2_extremeChance 60 = .ok (.iconst 0, 1) := by decide +kernel
theorem dX2_extremeChance_61 : decode cX2_extremeChance 61 = .ok (.laload, 1) := by decide +kernel
theorem dX2_extremeChance_62 : decode cX2_extremeChance 62 = .ok (.l2i, 1) := by decide +kernel
theorem dX2_extremeChance_63 : decode cX2_extremeChance 63 = .ok (.ireturn, 1) := by decide +kernel
theorem dX2_choose_0 : decode cX2_choose 0 = .ok (.iconst (-1), 1) := by decide +kernel
theorem dX2_choose_1 : decode cX2_choose 1 = .ok (.istore 4, 2) := by decide +kernel
theorem dX2_choose_3 : decode cX2_choose 3 = .ok (.lconst 0, 1) := by decide +kernel
theorem dX2_choose_4 : decode cX2_choose 4 = .ok (.lstore 5, 2) := by decide +kernel
theorem dX2_choose_6 : decode cX2_choose 6 = .ok (.iconst 0, 1) := by decide +kernel
theorem dX2_choose_7 : decode cX2_choose 7 = .ok (.istore 7, 2) := by decide +kernel
theorem dX2_choose_9 : decode cX2_choose 9 = .ok (.iload 7, 2) := by decide +kernel
theorem dX2_choose_11 : decode cX2_choose 11 = .ok (.aload_n 0, 1) := by decide +kernel
theorem dX2_choose_12 : decode cX2_choose 12 = .ok (.getfield 18, 3) := by decide +kernel
theorem dX2_choose_15 : decode cX2_choose 15 = .ok (.getfield 70, 3) := by decide +kernel
theorem dX2_choose_18 : decode cX2_choose 18 = .ok (.iload_n 2, 1) := by decide +kernel
theorem dX2_choose_19 : decode cX2_choose 19 = .ok (.iaload, 1) := by decide +kernel
theorem dX2_choose_20 : decode cX2_choose 20 = .ok (.if_icmp .ge 62, 3) := by decide +kernel
theorem dX2_choose_23 : decode cX2_choose 23 = .ok (.ldc2_w 74, 3) := by decide +kernel
theorem dX2_choose_26 : decode cX2_choose 26 = .ok (.aload_n 0, 1) := by decide +kernel
theorem dX2_choose_27 : decode cX2_choose 27 = .ok (.aload_n 1, 1) := by decide +kernel
theorem dX2_choose_28 : decode cX2_choose 28 = .ok (.iload_n 2, 1) := by decide +kernel
theorem dX2_choose_29 : decode cX2_choose 29 = .ok (.iload 7, 2) := by decide +kernel
theorem dX2_choose_31 : decode cX2_choose 31 = .ok (.invokevirtual 76, 3) := by decide +kernel
theorem dX2_choose_34 : decode cX2_choose 34 = .ok (.lmul, 1) := by decide +kernel
theorem dX2_choose_35 : decode cX2_choose 35 = .ok (.aload_n 0, 1) := by decide +kernel
theorem dX2_choose_36 : decode cX2_choose 36 = .ok (.aload_n 1, 1) := by decide +kernel
theorem dX2_choose_37 : decode cX2_choose 37 = .ok (.getfield 80, 3) := by decide +kernel
theorem dX2_choose_40 : decode cX2_choose 40 = .ok (.iload_n 3, 1) := by decide +kernel
theorem dX2_choose_41 : decode cX2_choose 41 = .ok (.iconst 1, 1) := by decide +kernel
theorem dX2_choose_42 : decode cX2_choose 42 = .ok (.isub, 1) := by decide +kernel
theorem dX2_choose_43 : decode cX2_choose 43 = .ok (.bipush 100, 2) := by decide +kernel
theorem dX2_choose_45 : decode cX2_choose 45 = .ok (.imul, 1) := by decide +kernel
theorem dX2_choose_46 : decode cX2_choose 46 = .ok (.iload_n 2, 1) := by decide +kernel
theorem dX2_choose_47 : decode cX2_choose 47 = .ok (.iload 7, 2) := by decide +kernel
theorem dX2_choose_49 : decode cX2_choose 49 = .ok (.invokevirtual 83, 3) := by decide +kernel
theorem dX2_choose_52 : decode cX2_choose 52 = .ok (.ladd, 1) := by decide +kernel
theorem dX2_choose_53 : decode cX2_choose 53 = .ok (.lstore 8, 2) := by decide +kernel
theorem dX2_choose_55 : decode cX2_choose 55 = .ok (.iload 4, 2) := by decide +kernel
theorem dX2_choose_57 : decode cX2_choose 57 = .ok (.ifCond .lt 11, 3) := by decide +kernel
theorem dX2_choose_60 : decode cX2_choose 60 = .ok (.lload 8, 2) := by decide +kernel
theorem dX2_choose_62 : decode cX2_choose 62 = .ok (.lload 5, 2) := by decide +kernel
theorem dX2_choose_64 : decode cX2_choose 64 = .ok (.lcmp, 1) := by decide +kernel
theorem dX2_choose_65 : decode cX2_choose 65 = .ok (.ifCond .le 11, 3) := by decide +kernel
theorem dX2_choose_68 : decode cX2_choose 68 = .ok (.iload 7, 2) := by decide +kernel
theorem dX2_choose_70 : decode cX2_choose 70 = .ok (.istore 4, 2) := by decide +kernel
theorem dX2_choose_72 : decode cX2_choose 72 = .ok (.lload 8, 2) := by decide +kernel
theorem dX2_choose_74 : decode cX2_choose 74 = .ok (.lstore 5, 2) := by decide +kernel
theorem dX2_choose_76 : decode cX2_choose 76 = .ok (.iinc 7 1, 3) := by decide +kernel
theorem dX2_choose_79 : decode cX2_choose 79 = .ok (.goto (-70), 3) := by decide +kernel
theorem dX2_choose_82 : decode cX2_choose 82 = .ok (.aload_n 1, 1) := by decide +kernel
theorem dX2_choose_83 : decode cX2_choose 83 = .ok (.getfield 87, 3) := by decide +kernel
theorem dX2_choose_86 : decode cX2_choose 86 = .ok (.iload_n 3, 1) := by decide +kernel
theorem dX2_choose_87 : decode cX2_choose 87 = .ok (.iconst 1, 1) := by decide +kernel
theorem dX2_choose_88 : decode cX2_choose 88 = .ok (.isub, 1) := by decide +kernel
theorem dX2_choose_89 : decode cX2_choose 89 = .ok (.bipush 100, 2) := by decide +kernel
theorem dX2_choose_91 : decode cX2_choose 91 = .ok (.imul, 1) := by decide +kernel
theorem dX2_choose_92 : decode cX2_choose 92 = .ok (.iload_n 2, 1) := by decide +kernel
theorem dX2_choose_93 : decode cX2_choose 93 = .ok (.iadd, 1) := by decide +kernel
theorem dX2_choose_94 : decode cX2_choose 94 = .ok (.iload 4, 2) := by decide +kernel
theorem dX2_choose_96 : decode cX2_choose 96 = .ok (.iastore, 1) := by decide +kernel
theorem dX2_choose_97 : decode cX2_choose 97 = .ok (.aload_n 1, 1) := by decide +kernel
theorem dX2_choose_98 : decode cX2_choose 98 = .ok (.getfield 80, 3) := by decide +kernel
theorem dX2_choose_101 : decode cX2_choose 101 = .ok (.iload_n 3, 1) := by decide +kernel
theorem dX2_choose_102 : decode cX2_choose 102 = .ok (.bipush 100, 2) := by decide +kernel
theorem dX2_choose_104 : decode cX2_choose 104 = .ok (.imul, 1) := by decide +kernel
theorem dX2_choose_105 : decode cX2_choose 105 = .ok (.iload_n 2, 1) := by decide +kernel
theorem dX2_choose_106 : decode cX2_choose 106 = .ok (.iadd, 1) := by decide +kernel
theorem dX2_choose_107 : decode cX2_choose 107 = .ok (.lload 5, 2) := by decide +kernel
theorem dX2_choose_109 : decode cX2_choose 109 = .ok (.lastore, 1) := by decide +kernel
theorem dX2_choose_110 : decode cX2_choose 110 = .ok (.return_, 1) := by decide +kernel
theorem dX2_weighted_0 : decode cX2_weighted 0 = .ok (.lconst 0, 1) := by decide +kernel
theorem dX2_weighted_1 : decode cX2_weighted 1 = .ok (.lstore 4, 2) := by decide +kernel
theorem dX2_weighted_3 : decode cX2_weighted 3 = .ok (.iconst 0, 1) := by decide +kernel
theorem dX2_weighted_4 : decode cX2_weighted 4 = .ok (.istore 6, 2) := by decide +kernel
theorem dX2_weighted_6 : decode cX2_weighted 6 = .ok (.iload 6, 2) := by decide +kernel
theorem dX2_weighted_8 : decode cX2_weighted 8 = .ok (.aload_n 0, 1) := by decide +kernel
theorem dX2_weighted_9 : decode cX2_weighted 9 = .ok (.getfield 18, 3) := by decide +kernel
theorem dX2_weighted_12 : decode cX2_weighted 12 = .ok (.getfield 37, 3) := by decide +kernel
theorem dX2_weighted_15 : decode cX2_weighted 15 = .ok (.getfield 41, 3) := by decide +kernel
theorem dX2_weighted_18 : decode cX2_weighted 18 = .ok (.if_icmp .ge 34, 3) := by decide +kernel
theorem dX2_weighted_21 : decode cX2_weighted 21 = .ok (.lload 4, 2) := by decide +kernel
theorem dX2_weighted_23 : decode cX2_weighted 23 = .ok (.aload_n 1, 1) := by decide +kernel
theorem dX2_weighted_24 : decode cX2_weighted 24 = .ok (.getfield 90, 3) := by decide +kernel
theorem dX2_weighted_27 : decode cX2_weighted 27 = .ok (.iload 6, 2) := by decide +kernel
theorem dX2_weighted_29 : decode cX2_weighted 29 = .ok (.iaload, 1) := by decide +kernel
theorem dX2_weighted_30 : decode cX2_weighted 30 = .ok (.i2l, 1) := by decide +kernel
theorem dX2_weighted_31 : decode cX2_weighted 31 = .ok (.aload_n 0, 1) := by decide +kernel
theorem dX2_weighted_32 : decode cX2_weighted 32 = .ok (.getfield 18, 3) := by decide +kernel
theorem dX2_weighted_35 : decode cX2_weighted 35 = .ok (.iload_n 2, 1) := by decide +kernel
theorem dX2_weighted_36 : decode cX2_weighted 36 = .ok (.iload_n 3, 1) := by decide +kernel
theorem dX2_weighted_37 : decode cX2_weighted 37 = .ok (.iload 6, 2) := by decide +kernel
theorem dX2_weighted_39 : decode cX2_weighted 39 = .ok (.invokevirtual 93, 3) := by decide +kernel
theorem dX2_weighted_42 : decode cX2_weighted 42 = .ok (.lmul, 1) := by decide +kernel
theorem dX2_weighted_43 : decode cX2_weighted 43 = .ok (.ladd, 1) := by decide +kernel
theorem dX2_weighted_44 : decode cX2_weighted 44 = .ok (.lstore 4, 2) := by decide +kernel
theorem dX2_weighted_46 : decode cX2_weighted 46 = .ok (.iinc 6 1, 3) := by decide +kernel
theorem dX2_weighted_49 : decode cX2_weighted 49 = .ok (.goto (-43), 3) := by decide +kernel
theorem dX2_weighted_52 : decode cX2_weighted 52 = .ok (.lload 4, 2) := by decide +kernel
theorem dX2_weighted_54 : decode cX2_weighted 54 = .ok (.lreturn, 1) := by decide +kernel
theorem dX2_gainOfAll_0 : decode cX2_gainOfAll 0 = .ok (.aload_n 0, 1) := by decide +kernel
theorem dX2_gainOfAll_1 : decode cX2_gainOfAll 1 = .ok (.getfield 9, 3) := by decide +kernel
theorem dX2_gainOfAll_4 : decode cX2_gainOfAll 4 = .ok (.lconst 0, 1) := by decide +kernel
theorem dX2_gainOfAll_5 : decode cX2_gainOfAll 5 = .ok (.invokestatic 97, 3) := by decide +kernel
theorem dX2_gainOfAll_8 : decode cX2_gainOfAll 8 = .ok (.iconst 1, 1) := by decide +kernel
theorem dX2_gainOfAll_9 : decode cX2_gainOfAll 9 = .ok (.istore_n 3, 1) := by decide +kernel
theorem dX2_gainOfAll_10 : decode cX2_gainOfAll 10 = .ok (.iload_n 3, 1) := by decide +kernel
theorem dX2_gainOfAll_11 : decode cX2_gainOfAll 11 = .ok (.aload_n 1, 1) := by decide +kernel
theorem dX2_gainOfAll_12 : decode cX2_gainOfAll 12 = .ok (.getfield 22, 3) := by decide +kernel
theorem dX2_gainOfAll_15 : decode cX2_gainOfAll 15 = .ok (.if_icmp .gt 89, 3) := by decide +kernel
theorem dX2_gainOfAll_18 : decode cX2_gainOfAll 18 = .ok (.iconst 0, 1) := by decide +kernel
theorem dX2_gainOfAll_19 : decode cX2_gainOfAll 19 = .ok (.istore 4, 2) := by decide +kernel
theorem dX2_gainOfAll_21 : decode cX2_gainOfAll 21 = .ok (.iload 4, 2) := by decide +kernel
theorem dX2_gainOfAll_23 : decode cX2_gainOfAll 23 = .ok (.aload_n 0, 1) := by decide +kernel
theorem dX2_gainOfAll_24 : decode cX2_gainOfAll 24 = .ok (.getfield 18, 3) := by decide +kernel
theorem dX2_gainOfAll_27 : decode cX2_gainOfAll 27 = .ok (.getfield 28, 3) := by decide +kernel
theorem dX2_gainOfAll_30 : decode cX2_gainOfAll 30 = .ok (.if_icmp .ge 64, 3) := by decide +kernel
theorem dX2_gainOfAll_33 : decode cX2_gainOfAll 33 = .ok (.aload_n 1, 1) := by decide +kernel
theorem dX2_gainOfAll_34 : decode cX2_gainOfAll 34 = .ok (.iload 4, 2) := by decide +kernel
theorem dX2_gainOfAll_36 : decode cX2_gainOfAll 36 = .ok (.iload_n 3, 1) := by decide +kernel
theorem dX2_gainOfAll_37 : decode cX2_gainOfAll 37 = .ok (.invokevirtual 103, 3) := by decide +kernel
theorem dX2_gainOfAll_40 : decode cX2_gainOfAll 40 = .ok (.istore 5, 2) := by decide +kernel
theorem dX2_gainOfAll_42 : decode cX2_gainOfAll 42 = .ok (.aload_n 0, 1) := by decide +kernel
theorem dX2_gainOfAll_43 : decode cX2_gainOfAll 43 = .ok (.getfield 15, 3) := by decide +kernel
theorem dX2_gainOfAll_46 : decode cX2_gainOfAll 46 = .ok (.iload 4, 2) := by decide +kernel
theorem dX2_gainOfAll_48 : decode cX2_gainOfAll 48 = .ok (.iload 5, 2) := by decide +kernel
theorem dX2_gainOfAll_50 : decode cX2_gainOfAll 50 = .ok (.ifCond .ge 7, 3) := by decide +kernel
theorem dX2_gainOfAll_53 : decode cX2_gainOfAll 53 = .ok (.lconst 0, 1) := by decide +kernel
theorem dX2_gainOfAll_54 : decode cX2_gainOfAll 54 = .ok (.goto 33, 3) := by decide +kernel
theorem dX2_gainOfAll_57 : decode cX2_gainOfAll 57 = .ok (.ldc2_w 74, 3) := by decide +kernel
theorem dX2_gainOfAll_60 : decode cX2_gainOfAll 60 = .ok (.aload_n 0, 1) := by decide +kernel
theorem dX2_gainOfAll_61 : decode cX2_gainOfAll 61 = .ok (.getfield 18, 3) := by decide +kernel
theorem dX2_gainOfAll_64 : decode cX2_gainOfAll 64 = .ok (.iload 4, 2) := by decide +kernel
theorem dX2_gainOfAll_66 : decode cX2_gainOfAll 66 = .ok (.iload 5, 2) := by decide +kernel
theorem dX2_gainOfAll_68 : decode cX2_gainOfAll 68 = .ok (.iload_n 2, 1) := by decide +kernel
theorem dX2_gainOfAll_69 : decode cX2_gainOfAll 69 = .ok (.invokevirtual 93, 3) := by decide +kernel
theorem dX2_gainOfAll_72 : decode cX2_gainOfAll 72 = .ok (.lmul, 1) := by decide +kernel
theorem dX2_gainOfAll_73 : decode cX2_gainOfAll 73 = .ok (.aload_n 0, 1) := by decide +kernel
theorem dX2_gainOfAll_74 : decode cX2_gainOfAll 74 = .ok (.aload_n 0, 1) := by decide +kernel
theorem dX2_gainOfAll_75 : decode cX2_gainOfAll 75 = .ok (.getfield 9, 3) := by decide +kernel
theorem dX2_gainOfAll_78 : decode cX2_gainOfAll 78 = .ok (.iconst 0, 1) := by decide +kernel
theorem dX2_gainOfAll_79 : decode cX2_gainOfAll 79 = .ok (.iload 4, 2) := by decide +kernel
theorem dX2_gainOfAll_81 : decode cX2_gainOfAll 81 = .ok (.iload 5, 2) := by decide +kernel
theorem dX2_gainOfAll_83 : decode cX2_gainOfAll 83 = .ok (.invokevirtual 83, 3) := by decide +kernel
theorem dX2_gainOfAll_86 : decode cX2_gainOfAll 86 = .ok (.ladd, 1) := by decide +kernel
theorem dX2_gainOfAll_87 : decode cX2_gainOfAll 87 = .ok (.lastore, 1) := by decide +kernel
theorem dX2_gainOfAll_88 : decode cX2_gainOfAll 88 = .ok (.iinc 4 1, 3) := by decide +kernel
theorem dX2_gainOfAll_91 : decode cX2_gainOfAll 91 = .ok (.goto (-70), 3) := by decide +kernel
theorem dX2_gainOfAll_94 : decode cX2_gainOfAll 94 = .ok (.aload_n 0, 1) := by decide +kernel
theorem dX2_gainOfAll_95 : decode cX2_gainOfAll 95 = .ok (.invokevirtual 67, 3) := by decide +kernel
theorem dX2_gainOfAll_98 : decode cX2_gainOfAll 98 = .ok (.iinc 3 1, 3) := by decide +kernel
theorem dX2_gainOfAll_101 : decode cX2_gainOfAll 101 = .ok (.goto (-91), 3) := by decide +kernel
theorem dX2_gainOfAll_104 : decode cX2_gainOfAll 104 = .ok (.aload_n 0, 1) := by decide +kernel
theorem dX2_gainOfAll_105 : decode cX2_gainOfAll 105 = .ok (.getfield 9, 3) := by decide +kernel
theorem dX2_gainOfAll_108 : decode cX2_gainOfAll 108 = .ok (.iconst 0, 1) := by decide +kernel
theorem dX2_gainOfAll_109 : decode cX2_gainOfAll 109 = .ok (.laload, 1) := by decide +kernel
theorem dX2_gainOfAll_110 : decode cX2_gainOfAll 110 = .ok (.lreturn, 1) := by decide +kernel
theorem dX2_chanceOfAll_0 : decode cX2_chanceOfAll 0 = .ok (.aload_n 0, 1) := by decide +kernel
theorem dX2_chanceOfAll_1 : decode cX2_chanceOfAll 1 = .ok (.invokevirtual 60, 3) := by decide +kernel
theorem dX2_chanceOfAll_4 : decode cX2_chanceOfAll 4 = .ok (.iconst 1, 1) := by decide +kernel
theorem dX2_chanceOfAll_5 : decode cX2_chanceOfAll 5 = .ok (.istore_n 2, 1) := by decide +kernel
theorem dX2_chanceOfAll_6 : decode cX2_chanceOfAll 6 = .ok (.iload_n 2, 1) := by decide +kernel
theorem dX2_chanceOfAll_7 : decode cX2_chanceOfAll 7 = .ok (.aload_n 1, 1) := by decide +kernel
theorem dX2_chanceOfAll_8 : decode cX2_chanceOfAll 8 = .ok (.getfield 22, 3) := by decide +kernel
theorem dX2_chanceOfAll_11 : decode cX2_chanceOfAll 11 = .ok (.if_icmp .gt 72, 3) := by decide +kernel
theorem dX2_chanceOfAll_14 : decode cX2_chanceOfAll 14 = .ok (.iconst 0, 1) := by decide +kernel
theorem dX2_chanceOfAll_15 : decode cX2_chanceOfAll 15 = .ok (.istore_n 3, 1) := by decide +kernel
theorem dX2_chanceOfAll_16 : decode cX2_chanceOfAll 16 = .ok (.iload_n 3, 1) := by decide +kernel
theorem dX2_chanceOfAll_17 : decode cX2_chanceOfAll 17 = .ok (.aload_n 0, 1) := by decide +kernel
theorem dX2_chanceOfAll_18 : decode cX2_chanceOfAll 18 = .ok (.getfield 18, 3) := by decide +kernel
theorem dX2_chanceOfAll_21 : decode cX2_chanceOfAll 21 = .ok (.getfield 28, 3) := by decide +kernel
theorem dX2_chanceOfAll_24 : decode cX2_chanceOfAll 24 = .ok (.if_icmp .ge 49, 3) := by decide +kernel
theorem dX2_chanceOfAll_27 : decode cX2_chanceOfAll 27 = .ok (.aload_n 1, 1) := by decide +kernel
theorem dX2_chanceOfAll_28 : decode cX2_chanceOfAll 28 = .ok (.iload_n 3, 1) := by decide +kernel
theorem dX2_chanceOfAll_29 : decode cX2_chanceOfAll 29 = .ok (.iload_n 2, 1) := by decide +kernel
theorem dX2_chanceOfAll_30 : decode cX2_chanceOfAll 30 = .ok (.invokevirtual 103, 3) := by decide +kernel
theorem dX2_chanceOfAll_33 : decode cX2_chanceOfAll 33 = .ok (.istore 4, 2) := by decide +kernel
theorem dX2_chanceOfAll_35 : decode cX2_chanceOfAll 35 = .ok (.aload_n 0, 1) := by decide +kernel
theorem dX2_chanceOfAll_36 : decode cX2_chanceOfAll 36 = .ok (.getfield 15, 3) := by decide +kernel
theorem dX2_chanceOfAll_39 : decode cX2_chanceOfAll 39 = .ok (.iload_n 3, 1) := by decide +kernel
theorem dX2_chanceOfAll_40 : decode cX2_chanceOfAll 40 = .ok (.iload 4, 2) := by decide +kernel
theorem dX2_chanceOfAll_42 : decode cX2_chanceOfAll 42 = .ok (.ifCond .ge 12, 3) := by decide +kernel
theorem dX2_chanceOfAll_45 : decode cX2_chanceOfAll 45 = .ok (.aload_n 0, 1) := by decide +kernel
theorem dX2_chanceOfAll_46 : decode cX2_chanceOfAll 46 = .ok (.getfield 9, 3) := by decide +kernel
theorem dX2_chanceOfAll_49 : decode cX2_chanceOfAll 49 = .ok (.iload_n 3, 1) := by decide +kernel
theorem dX2_chanceOfAll_50 : decode cX2_chanceOfAll 50 = .ok (.laload, 1) := by decide +kernel
theorem dX2_chanceOfAll_51 : decode cX2_chanceOfAll 51 = .ok (.goto 15, 3) := by decide +kernel
theorem dX2_chanceOfAll_54 : decode cX2_chanceOfAll 54 = .ok (.aload_n 0, 1) := by decide +kernel
theorem dX2_chanceOfAll_55 : decode cX2_chanceOfAll 55 = .ok (.aload_n 0, 1) := by decide +kernel
theorem dX2_chanceOfAll_56 : decode cX2_chanceOfAll 56 = .ok (.getfield 9, 3) := by decide +kernel
theorem dX2_chanceOfAll_59 : decode cX2_chanceOfAll 59 = .ok (.iconst 0, 1) := by decide +kernel
theorem dX2_chanceOfAll_60 : decode cX2_chanceOfAll 60 = .ok (.iload_n 3, 1) := by decide +kernel
theorem dX2_chanceOfAll_61 : decode cX2_chanceOfAll 61 = .ok (.iload 4, 2) := by decide +kernel
theorem dX2_chanceOfAll_63 : decode cX2_chanceOfAll 63 = .ok (.invokevirtual 83, 3) := by decide +kernel
theorem dX2_chanceOfAll_66 : decode cX2_chanceOfAll 66 = .ok (.lastore, 1) := by decide +kernel
theorem dX2_chanceOfAll_67 : decode cX2_chanceOfAll 67 = .ok (.iinc 3 1, 3) := by decide +kernel
theorem dX2_chanceOfAll_70 : decode cX2_chanceOfAll 70 = .ok (.goto (-54), 3) := by decide +kernel
theorem dX2_chanceOfAll_73 : decode cX2_chanceOfAll 73 = .ok (.aload_n 0, 1) := by decide +kernel
theorem dX2_chanceOfAll_74 : decode cX2_chanceOfAll 74 = .ok (.invokevirtual 67, 3) := by decide +kernel
theorem dX2_chanceOfAll_77 : decode cX2_chanceOfAll 77 = .ok (.iinc 2 1, 3) := by decide +kernel
theorem dX2_chanceOfAll_80 : decode cX2_chanceOfAll 80 = .ok (.goto (-74), 3) := by decide +kernel
theorem dX2_chanceOfAll_83 : decode cX2_chanceOfAll 83 = .ok (.aload_n 0, 1) := by decide +kernel
theorem dX2_chanceOfAll_84 : decode cX2_chanceOfAll 84 = .ok (.getfield 9, 3) := by decide +kernel
theorem dX2_chanceOfAll_87 : decode cX2_chanceOfAll 87 = .ok (.iconst 0, 1) := by decide +kernel
theorem dX2_chanceOfAll_88 : decode cX2_chanceOfAll 88 = .ok (.laload, 1) := by decide +kernel
theorem dX2_chanceOfAll_89 : decode cX2_chanceOfAll 89 = .ok (.l2i, 1) := by decide +kernel
theorem dX2_chanceOfAll_90 : decode cX2_chanceOfAll 90 = .ok (.ireturn, 1) := by decide +kernel
theorem dX2_extremeIn_0 : decode cX2_extremeIn 0 = .ok (.aload_n 0, 1) := by decide +kernel
theorem dX2_extremeIn_1 : decode cX2_extremeIn 1 = .ok (.getfield 9, 3) := by decide +kernel
theorem dX2_extremeIn_4 : decode cX2_extremeIn 4 = .ok (.iload_n 1, 1) := by decide +kernel
theorem dX2_extremeIn_5 : decode cX2_extremeIn 5 = .ok (.laload, 1) := by decide +kernel
theorem dX2_extremeIn_6 : decode cX2_extremeIn 6 = .ok (.lstore_n 3, 1) := by decide +kernel
theorem dX2_extremeIn_7 : decode cX2_extremeIn 7 = .ok (.iconst 0, 1) := by decide +kernel
theorem dX2_extremeIn_8 : decode cX2_extremeIn 8 = .ok (.istore 5, 2) := by decide +kernel
theorem dX2_extremeIn_10 : decode cX2_extremeIn 10 = .ok (.iload 5, 2) := by decide +kernel
theorem dX2_extremeIn_12 : decode cX2_extremeIn 12 = .ok (.aload_n 0, 1) := by decide +kernel
theorem dX2_extremeIn_13 : decode cX2_extremeIn 13 = .ok (.getfield 18, 3) := by decide +kernel
theorem dX2_extremeIn_16 : decode cX2_extremeIn 16 = .ok (.getfield 70, 3) := by decide +kernel
theorem dX2_extremeIn_19 : decode cX2_extremeIn 19 = .ok (.iload_n 1, 1) := by decide +kernel
theorem dX2_extremeIn_20 : decode cX2_extremeIn 20 = .ok (.iaload, 1) := by decide +kernel
theorem dX2_extremeIn_21 : decode cX2_extremeIn 21 = .ok (.if_icmp .ge 52, 3) := by decide +kernel
theorem dX2_extremeIn_24 : decode cX2_extremeIn 24 = .ok (.aload_n 0, 1) := by decide +kernel
theorem dX2_extremeIn_25 : decode cX2_extremeIn 25 = .ok (.aload_n 0, 1) := by decide +kernel
theorem dX2_extremeIn_26 : decode cX2_extremeIn 26 = .ok (.getfield 9, 3) := by decide +kernel
theorem dX2_extremeIn_29 : decode cX2_extremeIn 29 = .ok (.iconst 0, 1) := by decide +kernel
theorem dX2_extremeIn_30 : decode cX2_extremeIn 30 = .ok (.iload_n 1, 1) := by decide +kernel
theorem dX2_extremeIn_31 : decode cX2_extremeIn 31 = .ok (.iload 5, 2) := by decide +kernel
theorem dX2_extremeIn_33 : decode cX2_extremeIn 33 = .ok (.invokevirtual 83, 3) := by decide +kernel
theorem dX2_extremeIn_36 : decode cX2_extremeIn 36 = .ok (.lstore 6, 2) := by decide +kernel
theorem dX2_extremeIn_38 : decode cX2_extremeIn 38 = .ok (.iload 5, 2) := by decide +kernel
theorem dX2_extremeIn_40 : decode cX2_extremeIn 40 = .ok (.ifCond .eq 24, 3) := by decide +kernel
theorem dX2_extremeIn_43 : decode cX2_extremeIn 43 = .ok (.iload_n 2, 1) := by decide +kernel
theorem dX2_extremeIn_44 : decode cX2_extremeIn 44 = .ok (.ifCond .eq 13, 3) := by decide +kernel
theorem dX2_extremeIn_47 : decode cX2_extremeIn 47 = .ok (.lload 6, 2) := by decide +kernel
theorem dX2_extremeIn_49 : decode cX2_extremeIn 49 = .ok (.lload_n 3, 1) := by decide +kernel
theorem dX2_extremeIn_50 : decode cX2_extremeIn 50 = .ok (.lcmp, 1) := by decide +kernel
theorem dX2_extremeIn_51 : decode cX2_extremeIn 51 = .ok (.ifCond .ge 16, 3) := by decide +kernel
theorem dX2_extremeIn_54 : decode cX2_extremeIn 54 = .ok (.goto 10, 3) := by decide +kernel
theorem dX2_extremeIn_57 : decode cX2_extremeIn 57 = .ok (.lload 6, 2) := by decide +kernel
theorem dX2_extremeIn_59 : decode cX2_extremeIn 59 = .ok (.lload_n 3, 1) := by decide +kernel
theorem dX2_extremeIn_60 : decode cX2_extremeIn 60 = .ok (.lcmp, 1) := by decide +kernel
theorem dX2_extremeIn_61 : decode cX2_extremeIn 61 = .ok (.ifCond .le 6, 3) := by decide +kernel
theorem dX2_extremeIn_64 : decode cX2_extremeIn 64 = .ok (.lload 6, 2) := by decide +kernel
theorem dX2_extremeIn_66 : decode cX2_extremeIn 66 = .ok (.lstore_n 3, 1) := by decide +kernel
theorem dX2_extremeIn_67 : decode cX2_extremeIn 67 = .ok (.iinc 5 1, 3) := by decide +kernel
theorem dX2_extremeIn_70 : decode cX2_extremeIn 70 = .ok (.goto (-60), 3) := by decide +kernel
theorem dX2_extremeIn_73 : decode cX2_extremeIn 73 = .ok (.lload_n 3, 1) := by decide +kernel
theorem dX2_extremeIn_74 : decode cX2_extremeIn 74 = .ok (.lreturn, 1) := by decide +kernel
theorem dX2_startChances_0 : decode cX2_startChances 0 = .ok (.iconst 0, 1) := by decide +kernel
theorem dX2_startChances_1 : decode cX2_startChances 1 = .ok (.istore_n 1, 1) := by decide +kernel
theorem dX2_startChances_2 : decode cX2_startChances 2 = .ok (.iload_n 1, 1) := by decide +kernel
theorem dX2_startChances_3 : decode cX2_startChances 3 = .ok (.aload_n 0, 1) := by decide +kernel
theorem dX2_startChances_4 : decode cX2_startChances 4 = .ok (.getfield 18, 3) := by decide +kernel
theorem dX2_startChances_7 : decode cX2_startChances 7 = .ok (.getfield 28, 3) := by decide +kernel
theorem dX2_startChances_10 : decode cX2_startChances 10 = .ok (.if_icmp .ge 33, 3) := by decide +kernel
theorem dX2_startChances_13 : decode cX2_startChances 13 = .ok (.aload_n 0, 1) := by decide +kernel
theorem dX2_startChances_14 : decode cX2_startChances 14 = .ok (.getfield 9, 3) := by decide +kernel
theorem dX2_startChances_17 : decode cX2_startChances 17 = .ok (.iload_n 1, 1) := by decide +kernel
theorem dX2_startChances_18 : decode cX2_startChances 18 = .ok (.aload_n 0, 1) := by decide +kernel
theorem dX2_startChances_19 : decode cX2_startChances 19 = .ok (.getfield 18, 3) := by decide +kernel
theorem dX2_startChances_22 : decode cX2_startChances 22 = .ok (.iload_n 1, 1) := by decide +kernel
theorem dX2_startChances_23 : decode cX2_startChances 23 = .ok (.invokevirtual 107, 3) := by decide +kernel
theorem dX2_startChances_26 : decode cX2_startChances 26 = .ok (.ifCond .eq 9, 3) := by decide +kernel
theorem dX2_startChances_29 : decode cX2_startChances 29 = .ok (.ldc2_w 111, 3) := by decide +kernel
theorem dX2_startChances_32 : decode cX2_startChances 32 = .ok (.goto 4, 3) := by decide +kernel
theorem dX2_startChances_35 : decode cX2_startChances 35 = .ok (.lconst 0, 1) := by decide +kernel
theorem dX2_startChances_36 : decode cX2_startChances 36 = .ok (.lastore, 1) := by decide +kernel
theorem dX2_startChances_37 : decode cX2_startChances 37 = .ok (.iinc 1 1, 3) := by decide +kernel
theorem dX2_startChances_40 : decode cX2_startChances 40 = .ok (.goto (-38), 3) := by decide +kernel
theorem dX2_startChances_43 : decode cX2_startChances 43 = .ok (.return_, 1) := by decide +kernel
theorem dX2_stepOn_0 : decode cX2_stepOn 0 = .ok (.aload_n 0, 1) := by decide +kernel
theorem dX2_stepOn_1 : decode cX2_stepOn 1 = .ok (.getfield 15, 3) := by decide +kernel
theorem dX2_stepOn_4 : decode cX2_stepOn 4 = .ok (.iconst 0, 1) := by decide +kernel
theorem dX2_stepOn_5 : decode cX2_stepOn 5 = .ok (.aload_n 0, 1) := by decide +kernel
theorem dX2_stepOn_6 : decode cX2_stepOn 6 = .ok (.getfield 9, 3) := by decide +kernel
theorem dX2_stepOn_9 : decode cX2_stepOn 9 = .ok (.iconst 0, 1) := by decide +kernel
theorem dX2_stepOn_10 : decode cX2_stepOn 10 = .ok (.bipush 100, 2) := by decide +kernel
theorem dX2_stepOn_12 : decode cX2_stepOn 12 = .ok (.invokestatic 113, 3) := by decide +kernel
theorem dX2_stepOn_15 : decode cX2_stepOn 15 = .ok (.return_, 1) := by decide +kernel
theorem dX2_later_0 : decode cX2_later 0 = .ok (.lconst 0, 1) := by decide +kernel
theorem dX2_later_1 : decode cX2_later 1 = .ok (.lstore 5, 2) := by decide +kernel
theorem dX2_later_3 : decode cX2_later 3 = .ok (.iconst 0, 1) := by decide +kernel
theorem dX2_later_4 : decode cX2_later 4 = .ok (.istore 7, 2) := by decide +kernel
theorem dX2_later_6 : decode cX2_later 6 = .ok (.iload 7, 2) := by decide +kernel
theorem dX2_later_8 : decode cX2_later 8 = .ok (.aload_n 0, 1) := by decide +kernel
theorem dX2_later_9 : decode cX2_later 9 = .ok (.getfield 18, 3) := by decide +kernel
theorem dX2_later_12 : decode cX2_later 12 = .ok (.iload_n 3, 1) := by decide +kernel
theorem dX2_later_13 : decode cX2_later 13 = .ok (.iload 4, 2) := by decide +kernel
theorem dX2_later_15 : decode cX2_later 15 = .ok (.invokevirtual 119, 3) := by decide +kernel
theorem dX2_later_18 : decode cX2_later 18 = .ok (.if_icmp .ge 50, 3) := by decide +kernel
theorem dX2_later_21 : decode cX2_later 21 = .ok (.aload_n 1, 1) := by decide +kernel
theorem dX2_later_22 : decode cX2_later 22 = .ok (.iload_n 2, 1) := by decide +kernel
theorem dX2_later_23 : decode cX2_later 23 = .ok (.aload_n 0, 1) := by decide +kernel
theorem dX2_later_24 : decode cX2_later 24 = .ok (.getfield 18, 3) := by decide +kernel
theorem dX2_later_27 : decode cX2_later 27 = .ok (.iload_n 3, 1) := by decide +kernel
theorem dX2_later_28 : decode cX2_later 28 = .ok (.iload 4, 2) := by decide +kernel
theorem dX2_later_30 : decode cX2_later 30 = .ok (.iload 7, 2) := by decide +kernel
theorem dX2_later_32 : decode cX2_later 32 = .ok (.invokevirtual 122, 3) := by decide +kernel
theorem dX2_later_35 : decode cX2_later 35 = .ok (.iadd, 1) := by decide +kernel
theorem dX2_later_36 : decode cX2_later 36 = .ok (.invokestatic 126, 3) := by decide +kernel
theorem dX2_later_39 : decode cX2_later 39 = .ok (.lstore 8, 2) := by decide +kernel
theorem dX2_later_41 : decode cX2_later 41 = .ok (.lload 5, 2) := by decide +kernel
theorem dX2_later_43 : decode cX2_later 43 = .ok (.aload_n 0, 1) := by decide +kernel
theorem dX2_later_44 : decode cX2_later 44 = .ok (.getfield 18, 3) := by decide +kernel
theorem dX2_later_47 : decode cX2_later 47 = .ok (.iload_n 3, 1) := by decide +kernel
theorem dX2_later_48 : decode cX2_later 48 = .ok (.iload 4, 2) := by decide +kernel
theorem dX2_later_50 : decode cX2_later 50 = .ok (.iload 7, 2) := by decide +kernel
theorem dX2_later_52 : decode cX2_later 52 = .ok (.invokevirtual 130, 3) := by decide +kernel
theorem dX2_later_55 : decode cX2_later 55 = .ok (.i2l, 1) := by decide +kernel
theorem dX2_later_56 : decode cX2_later 56 = .ok (.lload 8, 2) := by decide +kernel
theorem dX2_later_58 : decode cX2_later 58 = .ok (.lmul, 1) := by decide +kernel
theorem dX2_later_59 : decode cX2_later 59 = .ok (.ladd, 1) := by decide +kernel
theorem dX2_later_60 : decode cX2_later 60 = .ok (.lstore 5, 2) := by decide +kernel
theorem dX2_later_62 : decode cX2_later 62 = .ok (.iinc 7 1, 3) := by decide +kernel
theorem dX2_later_65 : decode cX2_later 65 = .ok (.goto (-59), 3) := by decide +kernel
theorem dX2_later_68 : decode cX2_later 68 = .ok (.lload 5, 2) := by decide +kernel
theorem dX2_later_70 : decode cX2_later 70 = .ok (.ldc2_w 133, 3) := by decide +kernel
theorem dX2_later_73 : decode cX2_later 73 = .ok (.ldiv, 1) := by decide +kernel
theorem dX2_later_74 : decode cX2_later 74 = .ok (.lreturn, 1) := by decide +kernel
theorem dX3_init_0 : decode cX3_init 0 = .ok (.aload_n 0, 1) := by decide +kernel
theorem dX3_init_1 : decode cX3_init 1 = .ok (.invokespecial 3, 3) := by decide +kernel
theorem dX3_init_4 : decode cX3_init 4 = .ok (.aload_n 0, 1) := by decide +kernel
theorem dX3_init_5 : decode cX3_init 5 = .ok (.iconst 3, 1) := by decide +kernel
theorem dX3_init_6 : decode cX3_init 6 = .ok (.newarray .long, 2) := by decide +kernel
theorem dX3_init_8 : decode cX3_init 8 = .ok (.putfield 9, 3) := by decide +kernel
theorem dX3_init_11 : decode cX3_init 11 = .ok (.aload_n 0, 1) := by decide +kernel
theorem dX3_init_12 : decode cX3_init 12 = .ok (.aload_n 1, 1) := by decide +kernel
theorem dX3_init_13 : decode cX3_init 13 = .ok (.putfield 15, 3) := by decide +kernel
theorem dX3_init_16 : decode cX3_init 16 = .ok (.return_, 1) := by decide +kernel
theorem dX3_clear_0 : decode cX3_clear 0 = .ok (.aload_n 0, 1) := by decide +kernel
theorem dX3_clear_1 : decode cX3_clear 1 = .ok (.iconst 0, 1) := by decide +kernel
theorem dX3_clear_2 : decode cX3_clear 2 = .ok (.putfield 19, 3) := by decide +kernel
theorem dX3_clear_5 : decode cX3_clear 5 = .ok (.aload_n 0, 1) := by decide +kernel
theorem dX3_clear_6 : decode cX3_clear 6 = .ok (.getfield 9, 3) := by decide +kernel
theorem dX3_clear_9 : decode cX3_clear 9 = .ok (.lconst 0, 1) := by decide +kernel
theorem dX3_clear_10 : decode cX3_clear 10 = .ok (.invokestatic 23, 3) := by decide +kernel
theorem dX3_clear_13 : decode cX3_clear 13 = .ok (.return_, 1) := by decide +kernel
theorem dX4_init_0 : decode cX4_init 0 = .ok (.aload_n 0, 1) := by decide +kernel
theorem dX4_init_1 : decode cX4_init 1 = .ok (.invokespecial 3, 3) := by decide +kernel
theorem dX4_init_4 : decode cX4_init 4 = .ok (.aload_n 0, 1) := by decide +kernel
theorem dX4_init_5 : decode cX4_init 5 = .ok (.bipush 6, 2) := by decide +kernel
theorem dX4_init_7 : decode cX4_init 7 = .ok (.newarray .long, 2) := by decide +kernel
theorem dX4_init_9 : decode cX4_init 9 = .ok (.putfield 9, 3) := by decide +kernel
theorem dX4_init_12 : decode cX4_init 12 = .ok (.aload_n 0, 1) := by decide +kernel
theorem dX4_init_13 : decode cX4_init 13 = .ok (.bipush 6, 2) := by decide +kernel
theorem dX4_init_15 : decode cX4_init 15 = .ok (.newarray .int, 2) := by decide +kernel
theorem dX4_init_17 : decode cX4_init 17 = .ok (.putfield 15, 3) := by decide +kernel
theorem dX4_init_20 : decode cX4_init 20 = .ok (.aload_n 0, 1) := by decide +kernel
theorem dX4_init_21 : decode cX4_init 21 = .ok (.bipush 6, 2) := by decide +kernel
theorem dX4_init_23 : decode cX4_init 23 = .ok (.newarray .int, 2) := by decide +kernel
theorem dX4_init_25 : decode cX4_init 25 = .ok (.putfield 19, 3) := by decide +kernel
theorem dX4_init_28 : decode cX4_init 28 = .ok (.aload_n 0, 1) := by decide +kernel
theorem dX4_init_29 : decode cX4_init 29 = .ok (.bipush 6, 2) := by decide +kernel
theorem dX4_init_31 : decode cX4_init 31 = .ok (.newarray .int, 2) := by decide +kernel
theorem dX4_init_33 : decode cX4_init 33 = .ok (.putfield 22, 3) := by decide +kernel
theorem dX4_init_36 : decode cX4_init 36 = .ok (.aload_n 0, 1) := by decide +kernel
theorem dX4_init_37 : decode cX4_init 37 = .ok (.iconst 3, 1) := by decide +kernel
theorem dX4_init_38 : decode cX4_init 38 = .ok (.newarray .long, 2) := by decide +kernel
theorem dX4_init_40 : decode cX4_init 40 = .ok (.putfield 25, 3) := by decide +kernel
theorem dX4_init_43 : decode cX4_init 43 = .ok (.aload_n 0, 1) := by decide +kernel
theorem dX4_init_44 : decode cX4_init 44 = .ok (.iconst 3, 1) := by decide +kernel
theorem dX4_init_45 : decode cX4_init 45 = .ok (.newarray .int, 2) := by decide +kernel
theorem dX4_init_47 : decode cX4_init 47 = .ok (.putfield 28, 3) := by decide +kernel
theorem dX4_init_50 : decode cX4_init 50 = .ok (.aload_n 0, 1) := by decide +kernel
theorem dX4_init_51 : decode cX4_init 51 = .ok (.iconst 3, 1) := by decide +kernel
theorem dX4_init_52 : decode cX4_init 52 = .ok (.newarray .int, 2) := by decide +kernel
theorem dX4_init_54 : decode cX4_init 54 = .ok (.putfield 31, 3) := by decide +kernel
theorem dX4_init_57 : decode cX4_init 57 = .ok (.aload_n 0, 1) := by decide +kernel
theorem dX4_init_58 : decode cX4_init 58 = .ok (.iconst (-1), 1) := by decide +kernel
theorem dX4_init_59 : decode cX4_init 59 = .ok (.putfield 34, 3) := by decide +kernel
theorem dX4_init_62 : decode cX4_init 62 = .ok (.aload_n 0, 1) := by decide +kernel
theorem dX4_init_63 : decode cX4_init 63 = .ok (.bipush 16, 2) := by decide +kernel
theorem dX4_init_65 : decode cX4_init 65 = .ok (.newarray .long, 2) := by decide +kernel
theorem dX4_init_67 : decode cX4_init 67 = .ok (.putfield 38, 3) := by decide +kernel
theorem dX4_init_70 : decode cX4_init 70 = .ok (.aload_n 0, 1) := by decide +kernel
theorem dX4_init_71 : decode cX4_init 71 = .ok (.bipush 16, 2) := by decide +kernel
theorem dX4_init_73 : decode cX4_init 73 = .ok (.newarray .int, 2) := by decide +kernel
theorem dX4_init_75 : decode cX4_init 75 = .ok (.putfield 41, 3) := by decide +kernel
theorem dX4_init_78 : decode cX4_init 78 = .ok (.aload_n 0, 1) := by decide +kernel
theorem dX4_init_79 : decode cX4_init 79 = .ok (.bipush 16, 2) := by decide +kernel
theorem dX4_init_81 : decode cX4_init 81 = .ok (.newarray .int, 2) := by decide +kernel
theorem dX4_init_83 : decode cX4_init 83 = .ok (.putfield 44, 3) := by decide +kernel
theorem dX4_init_86 : decode cX4_init 86 = .ok (.aload_n 0, 1) := by decide +kernel
theorem dX4_init_87 : decode cX4_init 87 = .ok (.bipush 16, 2) := by decide +kernel
theorem dX4_init_89 : decode cX4_init 89 = .ok (.newarray .int, 2) := by decide +kernel
theorem dX4_init_91 : decode cX4_init 91 = .ok (.putfield 47, 3) := by decide +kernel
theorem dX4_init_94 : decode cX4_init 94 = .ok (.aload_n 0, 1) := by decide +kernel
theorem dX4_init_95 : decode cX4_init 95 = .ok (.bipush 64, 2) := by decide +kernel
theorem dX4_init_97 : decode cX4_init 97 = .ok (.newarray .int, 2) := by decide +kernel
theorem dX4_init_99 : decode cX4_init 99 = .ok (.putfield 50, 3) := by decide +kernel
theorem dX4_init_102 : decode cX4_init 102 = .ok (.aload_n 0, 1) := by decide +kernel
theorem dX4_init_103 : decode cX4_init 103 = .ok (.sipush 384, 3) := by decide +kernel
theorem dX4_init_106 : decode cX4_init 106 = .ok (.newarray .int, 2) := by decide +kernel
theorem dX4_init_108 : decode cX4_init 108 = .ok (.putfield 53, 3) := by decide +kernel
theorem dX4_init_111 : decode cX4_init 111 = .ok (.return_, 1) := by decide +kernel
theorem dX4_clear_0 : decode cX4_clear 0 = .ok (.aload_n 0, 1) := by decide +kernel
theorem dX4_clear_1 : decode cX4_clear 1 = .ok (.iconst 0, 1) := by decide +kernel
theorem dX4_clear_2 : decode cX4_clear 2 = .ok (.putfield 56, 3) := by decide +kernel
theorem dX4_clear_5 : decode cX4_clear 5 = .ok (.aload_n 0, 1) := by decide +kernel
theorem dX4_clear_6 : decode cX4_clear 6 = .ok (.iconst 0, 1) := by decide +kernel
theorem dX4_clear_7 : decode cX4_clear 7 = .ok (.putfield 59, 3) := by decide +kernel
theorem dX4_clear_10 : decode cX4_clear 10 = .ok (.aload_n 0, 1) := by decide +kernel
theorem dX4_clear_11 : decode cX4_clear 11 = .ok (.iconst 0, 1) := by decide +kernel
theorem dX4_clear_12 : decode cX4_clear 12 = .ok (.putfield 62, 3) := by decide +kernel
theorem dX4_clear_15 : decode cX4_clear 15 = .ok (.aload_n 0, 1) := by decide +kernel
theorem dX4_clear_16 : decode cX4_clear 16 = .ok (.iconst (-1), 1) := by decide +kernel
theorem dX4_clear_17 : decode cX4_clear 17 = .ok (.putfield 34, 3) := by decide +kernel
theorem dX4_clear_20 : decode cX4_clear 20 = .ok (.return_, 1) := by decide +kernel
theorem dX4_addVariable_0 : decode cX4_addVariable 0 = .ok (.aload_n 0, 1) := by decide +kernel
theorem dX4_addVariable_1 : decode cX4_addVariable 1 = .ok (.getfield 56, 3) := by decide +kernel
theorem dX4_addVariable_4 : decode cX4_addVariable 4 = .ok (.bipush 6, 2) := by decide +kernel
theorem dX4_addVariable_6 : decode cX4_addVariable 6 = .ok (.if_icmp .ge 55, 3) := by decide +kernel
theorem dX4_addVariable_9 : decode cX4_addVariable 9 = .ok (.aload_n 0, 1) := by decide +kernel
theorem dX4_addVariable_10 : decode cX4_addVariable 10 = .ok (.getfield 9, 3) := by decide +kernel
theorem dX4_addVariable_13 : decode cX4_addVariable 13 = .ok (.aload_n 0, 1) := by decide +kernel
theorem dX4_addVariable_14 : decode cX4_addVariable 14 = .ok (.getfield 56, 3) := by decide +kernel
theorem dX4_addVariable_17 : decode cX4_addVariable 17 = .ok (.lload_n 1, 1) := by decide +kernel
theorem dX4_addVariable_18 : decode cX4_addVariable 18 = .ok (.lastore, 1) := by decide +kernel
theorem dX4_addVariable_19 : decode cX4_addVariable 19 = .ok (.aload_n 0, 1) := by decide +kernel
theorem dX4_addVariable_20 : decode cX4_addVariable 20 = .ok (.getfield 15, 3) := by decide +kernel
theorem dX4_addVariable_23 : decode cX4_addVariable 23 = .ok (.aload_n 0, 1) := by decide +kernel
theorem dX4_addVariable_24 : decode cX4_addVariable 24 = .ok (.getfield 56, 3) := by decide +kernel
theorem dX4_addVariable_27 : decode cX4_addVariable 27 = .ok (.iload_n 3, 1) := by decide +kernel
theorem dX4_addVariable_28 : decode cX4_addVariable 28 = .ok (.iastore, 1) := by decide +kernel
theorem dX4_addVariable_29 : decode cX4_addVariable 29 = .ok (.aload_n 0, 1) := by decide +kernel
theorem dX4_addVariable_30 : decode cX4_addVariable 30 = .ok (.getfield 19, 3) := by decide +kernel
theorem dX4_addVariable_33 : decode cX4_addVariable 33 = .ok (.aload_n 0, 1) := by decide +kernel
theorem dX4_addVariable_34 : decode cX4_addVariable 34 = .ok (.getfield 56, 3) := by decide +kernel
theorem dX4_addVariable_37 : decode cX4_addVariable 37 = .ok (.iload 4, 2) := by decide +kernel
theorem dX4_addVariable_39 : decode cX4_addVariable 39 = .ok (.iastore, 1) := by decide +kernel
theorem dX4_addVariable_40 : decode cX4_addVariable 40 = .ok (.aload_n 0, 1) := by decide +kernel
theorem dX4_addVariable_41 : decode cX4_addVariable 41 = .ok (.getfield 22, 3) := by decide +kernel
theorem dX4_addVariable_44 : decode cX4_addVariable 44 = .ok (.aload_n 0, 1) := by decide +kernel
theorem dX4_addVariable_45 : decode cX4_addVariable 45 = .ok (.getfield 56, 3) := by decide +kernel
theorem dX4_addVariable_48 : decode cX4_addVariable 48 = .ok (.iload 5, 2) := by decide +kernel
theorem dX4_addVariable_50 : decode cX4_addVariable 50 = .ok (.iastore, 1) := by decide +kernel
theorem dX4_addVariable_51 : decode cX4_addVariable 51 = .ok (.aload_n 0, 1) := by decide +kernel
theorem dX4_addVariable_52 : decode cX4_addVariable 52 = .ok (.dup, 1) := by decide +kernel
theorem dX4_addVariable_53 : decode cX4_addVariable 53 = .ok (.getfield 56, 3) := by decide +kernel
theorem dX4_addVariable_56 : decode cX4_addVariable 56 = .ok (.iconst 1, 1) := by decide +kernel
theorem dX4_addVariable_57 : decode cX4_addVariable 57 = .ok (.iadd, 1) := by decide +kernel
theorem dX4_addVariable_58 : decode cX4_addVariable 58 = .ok (.putfield 56, 3) := by decide +kernel
theorem dX4_addVariable_61 : decode cX4_addVariable 61 = .ok (.return_, 1) := by decide +kernel
theorem dX4_addGain_0 : decode cX4_addGain 0 = .ok (.aload_n 0, 1) := by decide +kernel
theorem dX4_addGain_1 : decode cX4_addGain 1 = .ok (.getfield 59, 3) := by decide +kernel
theorem dX4_addGain_4 : decode cX4_addGain 4 = .ok (.iconst 3, 1) := by decide +kernel
theorem dX4_addGain_5 : decode cX4_addGain 5 = .ok (.if_icmp .ge 44, 3) := by decide +kernel
theorem dX4_addGain_8 : decode cX4_addGain 8 = .ok (.aload_n 0, 1) := by decide +kernel
theorem dX4_addGain_9 : decode cX4_addGain 9 = .ok (.getfield 25, 3) := by decide +kernel
theorem dX4_addGain_12 : decode cX4_addGain 12 = .ok (.aload_n 0, 1) := by decide +kernel
theorem dX4_addGain_13 : decode cX4_addGain 13 = .ok (.getfield 59, 3) := by decide +kernel
theorem dX4_addGain_16 : decode cX4_addGain 16 = .ok (.lload_n 1, 1) := by decide +kernel
theorem dX4_addGain_17 : decode cX4_addGain 17 = .ok (.lastore, 1) := by decide +kernel
theorem dX4_addGain_18 : decode cX4_addGain 18 = .ok (.aload_n 0, 1) := by decide +kernel
theorem dX4_addGain_19 : decode cX4_addGain 19 = .ok (.getfield 28, 3) := by decide +kernel
theorem dX4_addGain_22 : decode cX4_addGain 22 = .ok (.aload_n 0, 1) := by decide +kernel
theorem dX4_addGain_23 : decode cX4_addGain 23 = .ok (.getfield 59, 3) := by decide +kernel
theorem dX4_addGain_26 : decode cX4_addGain 26 = .ok (.iload_n 3, 1) := by decide +kernel
theorem dX4_addGain_27 : decode cX4_addGain 27 = .ok (.iastore, 1) := by decide +kernel
theorem dX4_addGain_28 : decode cX4_addGain 28 = .ok (.aload_n 0, 1) := by decide +kernel
theorem dX4_addGain_29 : decode cX4_addGain 29 = .ok (.getfield 31, 3) := by decide +kernel
theorem dX4_addGain_32 : decode cX4_addGain 32 = .ok (.aload_n 0, 1) := by decide +kernel
theorem dX4_addGain_33 : decode cX4_addGain 33 = .ok (.getfield 59, 3) := by decide +kernel
theorem dX4_addGain_36 : decode cX4_addGain 36 = .ok (.iload 4, 2) := by decide +kernel
theorem dX4_addGain_38 : decode cX4_addGain 38 = .ok (.iastore, 1) := by decide +kernel
theorem dX4_addGain_39 : decode cX4_addGain 39 = .ok (.aload_n 0, 1) := by decide +kernel
theorem dX4_addGain_40 : decode cX4_addGain 40 = .ok (.dup, 1) := by decide +kernel
theorem dX4_addGain_41 : decode cX4_addGain 41 = .ok (.getfield 59, 3) := by decide +kernel
theorem dX4_addGain_44 : decode cX4_addGain 44 = .ok (.iconst 1, 1) := by decide +kernel
theorem dX4_addGain_45 : decode cX4_addGain 45 = .ok (.iadd, 1) := by decide +kernel
theorem dX4_addGain_46 : decode cX4_addGain 46 = .ok (.putfield 59, 3) := by decide +kernel
theorem dX4_addGain_49 : decode cX4_addGain 49 = .ok (.return_, 1) := by decide +kernel
theorem dX4_addCommand_0 : decode cX4_addCommand 0 = .ok (.aload_n 0, 1) := by decide +kernel
theorem dX4_addCommand_1 : decode cX4_addCommand 1 = .ok (.getfield 62, 3) := by decide +kernel
theorem dX4_addCommand_4 : decode cX4_addCommand 4 = .ok (.bipush 16, 2) := by decide +kernel
theorem dX4_addCommand_6 : decode cX4_addCommand 6 = .ok (.if_icmp .ge 54, 3) := by decide +kernel
theorem dX4_addCommand_9 : decode cX4_addCommand 9 = .ok (.aload_n 0, 1) := by decide +kernel
theorem dX4_addCommand_10 : decode cX4_addCommand 10 = .ok (.getfield 38, 3) := by decide +kernel
theorem dX4_addCommand_13 : decode cX4_addCommand 13 = .ok (.aload_n 0, 1) := by decide +kernel
theorem dX4_addCommand_14 : decode cX4_addCommand 14 = .ok (.getfield 62, 3) := by decide +kernel
theorem dX4_addCommand_17 : decode cX4_addCommand 17 = .ok (.lload_n 1, 1) := by decide +kernel
theorem dX4_addCommand_18 : decode cX4_addCommand 18 = .ok (.lastore, 1) := by decide +kernel
theorem dX4_addCommand_19 : decode cX4_addCommand 19 = .ok (.aload_n 0, 1) := by decide +kernel
theorem dX4_addCommand_20 : decode cX4_addCommand 20 = .ok (.getfield 41, 3) := by decide +kernel
theorem dX4_addCommand_23 : decode cX4_addCommand 23 = .ok (.aload_n 0, 1) := by decide +kernel
theorem dX4_addCommand_24 : decode cX4_addCommand 24 = .ok (.getfield 62, 3) := by decide +kernel
theorem dX4_addCommand_27 : decode cX4_addCommand 27 = .ok (.iload_n 3, 1) := by decide +kernel
theorem dX4_addCommand_28 : decode cX4_addCommand 28 = .ok (.iastore, 1) := by decide +kernel
theorem dX4_addCommand_29 : decode cX4_addCommand 29 = .ok (.aload_n 0, 1) := by decide +kernel
theorem dX4_addCommand_30 : decode cX4_addCommand 30 = .ok (.getfield 44, 3) := by decide +kernel
theorem dX4_addCommand_33 : decode cX4_addCommand 33 = .ok (.aload_n 0, 1) := by decide +kernel
theorem dX4_addCommand_34 : decode cX4_addCommand 34 = .ok (.getfield 62, 3) := by decide +kernel
theorem dX4_addCommand_37 : decode cX4_addCommand 37 = .ok (.iload 4, 2) := by decide +kernel
theorem dX4_addCommand_39 : decode cX4_addCommand 39 = .ok (.iastore, 1) := by decide +kernel
theorem dX4_addCommand_40 : decode cX4_addCommand 40 = .ok (.aload_n 0, 1) := by decide +kernel
theorem dX4_addCommand_41 : decode cX4_addCommand 41 = .ok (.getfield 47, 3) := by decide +kernel
theorem dX4_addCommand_44 : decode cX4_addCommand 44 = .ok (.aload_n 0, 1) := by decide +kernel
theorem dX4_addCommand_45 : decode cX4_addCommand 45 = .ok (.getfield 62, 3) := by decide +kernel
theorem dX4_addCommand_48 : decode cX4_addCommand 48 = .ok (.iconst 0, 1) := by decide +kernel
theorem dX4_addCommand_49 : decode cX4_addCommand 49 = .ok (.iastore, 1) := by decide +kernel
theorem dX4_addCommand_50 : decode cX4_addCommand 50 = .ok (.aload_n 0, 1) := by decide +kernel
theorem dX4_addCommand_51 : decode cX4_addCommand 51 = .ok (.dup, 1) := by decide +kernel
theorem dX4_addCommand_52 : decode cX4_addCommand 52 = .ok (.getfield 62, 3) := by decide +kernel
theorem dX4_addCommand_55 : decode cX4_addCommand 55 = .ok (.iconst 1, 1) := by decide +kernel
theorem dX4_addCommand_56 : decode cX4_addCommand 56 = .ok (.iadd, 1) := by decide +kernel
theorem dX4_addCommand_57 : decode cX4_addCommand 57 = .ok (.putfield 62, 3) := by decide +kernel
theorem dX4_addCommand_60 : decode cX4_addCommand 60 = .ok (.return_, 1) := by decide +kernel
theorem dX4_addBranch_0 : decode cX4_addBranch 0 = .ok (.aload_n 0, 1) := by decide +kernel
theorem dX4_addBranch_1 : decode cX4_addBranch 1 = .ok (.invokevirtual 65, 3) := by decide +kernel
theorem dX4_addBranch_4 : decode cX4_addBranch 4 = .ok (.istore_n 2, 1) := by decide +kernel
theorem dX4_addBranch_5 : decode cX4_addBranch 5 = .ok (.aload_n 0, 1) := by decide +kernel
theorem dX4_addBranch_6 : decode cX4_addBranch 6 = .ok (.getfield 62, 3) := by decide +kernel
theorem dX4_addBranch_9 : decode cX4_addBranch 9 = .ok (.ifCond .le 69, 3) := by decide +kernel
theorem dX4_addBranch_12 : decode cX4_addBranch 12 = .ok (.iload_n 2, 1) := by decide +kernel
theorem dX4_addBranch_13 : decode cX4_addBranch 13 = .ok (.iconst 4, 1) := by decide +kernel
theorem dX4_addBranch_14 : decode cX4_addBranch 14 = .ok (.if_icmp .ge 64, 3) := by decide +kernel
theorem dX4_addBranch_17 : decode cX4_addBranch 17 = .ok (.aload_n 0, 1) := by decide +kernel
theorem dX4_addBranch_18 : decode cX4_addBranch 18 = .ok (.getfield 62, 3) := by decide +kernel
theorem dX4_addBranch_21 : decode cX4_addBranch 21 = .ok (.iconst 1, 1) := by decide +kernel
theorem dX4_addBranch_22 : decode cX4_addBranch 22 = .ok (.isub, 1) := by decide +kernel
theorem dX4_addBranch_23 : decode cX4_addBranch 23 = .ok (.iconst 4, 1) := by decide +kernel
theorem dX4_addBranch_24 : decode cX4_addBranch 24 = .ok (.imul, 1) := by decide +kernel
theorem dX4_addBranch_25 : decode cX4_addBranch 25 = .ok (.iload_n 2, 1) := by decide +kernel
theorem dX4_addBranch_26 : decode cX4_addBranch 26 = .ok (.iadd, 1) := by decide +kernel
theorem dX4_addBranch_27 : decode cX4_addBranch 27 = .ok (.istore_n 3, 1) := by decide +kernel
theorem dX4_addBranch_28 : decode cX4_addBranch 28 = .ok (.aload_n 0, 1) := by decide +kernel
theorem dX4_addBranch_29 : decode cX4_addBranch 29 = .ok (.getfield 50, 3) := by decide +kernel
theorem dX4_addBranch_32 : decode cX4_addBranch 32 = .ok (.iload_n 3, 1) := by decide +kernel
theorem dX4_addBranch_33 : decode cX4_addBranch 33 = .ok (.iload_n 1, 1) := by decide +kernel
theorem dX4_addBranch_34 : decode cX4_addBranch 34 = .ok (.iastore, 1) := by decide +kernel
theorem dX4_addBranch_35 : decode cX4_addBranch 35 = .ok (.iconst 0, 1) := by decide +kernel
theorem dX4_addBranch_36 : decode cX4_addBranch 36 = .ok (.istore 4, 2) := by decide +kernel
theorem dX4_addBranch_38 : decode cX4_addBranch 38 = .ok (.iload 4, 2) := by decide +kernel
theorem dX4_addBranch_40 : decode cX4_addBranch 40 = .ok (.bipush 6, 2) := by decide +kernel
theorem dX4_addBranch_42 : decode cX4_addBranch 42 = .ok (.if_icmp .ge 22, 3) := by decide +kernel
theorem dX4_addBranch_45 : decode cX4_addBranch 45 = .ok (.aload_n 0, 1) := by decide +kernel
theorem dX4_addBranch_46 : decode cX4_addBranch 46 = .ok (.getfield 53, 3) := by decide +kernel
theorem dX4_addBranch_49 : decode cX4_addBranch 49 = .ok (.iload_n 3, 1) := by decide +kernel
theorem dX4_addBranch_50 : decode cX4_addBranch 50 = .ok (.bipush 6, 2) := by decide +kernel
theorem dX4_addBranch_52 : decode cX4_addBranch 52 = .ok (.imul, 1) := by decide +kernel
theorem dX4_addBranch_53 : decode cX4_addBranch 53 = .ok (.iload 4, 2) := by decide +kernel
theorem dX4_addBranch_55 : decode cX4_addBranch 55 = .ok (.iadd, 1) := by decide +kernel
theorem dX4_addBranch_56 : decode cX4_addBranch 56 = .ok (.iconst (-1), 1) := by decide +kernel
theorem dX4_addBranch_57 : decode cX4_addBranch 57 = .ok (.iastore, 1) := by decide +kernel
theorem dX4_addBranch_58 : decode cX4_addBranch 58 = .ok (.iinc 4 1, 3) := by decide +kernel
theorem dX4_addBranch_61 : decode cX4_addBranch 61 = .ok (.goto (-23), 3) := by decide +kernel
theorem dX4_addBranch_64 : decode cX4_addBranch 64 = .ok (.aload_n 0, 1) := by decide +kernel
theorem dX4_addBranch_65 : decode cX4_addBranch 65 = .ok (.getfield 47, 3) := by decide +kernel
theorem dX4_addBranch_68 : decode cX4_addBranch 68 = .ok (.aload_n 0, 1) := by decide +kernel
theorem dX4_addBranch_69 : decode cX4_addBranch 69 = .ok (.getfield 62, 3) := by decide +kernel
theorem dX4_addBranch_72 : decode cX4_addBranch 72 = .ok (.iconst 1, 1) := by decide +kernel
theorem dX4_addBranch_73 : decode cX4_addBranch 73 = .ok (.isub, 1) := by decide +kernel
theorem dX4_addBranch_74 : decode cX4_addBranch 74 = .ok (.iload_n 2, 1) := by decide +kernel
theorem dX4_addBranch_75 : decode cX4_addBranch 75 = .ok (.iconst 1, 1) := by decide +kernel
theorem dX4_addBranch_76 : decode cX4_addBranch 76 = .ok (.iadd, 1) := by decide +kernel
theorem dX4_addBranch_77 : decode cX4_addBranch 77 = .ok (.iastore, 1) := by decide +kernel
theorem dX4_addBranch_78 : decode cX4_addBranch 78 = .ok (.return_, 1) := by decide +kernel
theorem dX4_addSetting_0 : decode cX4_addSetting 0 = .ok (.aload_n 0, 1) := by decide +kernel
theorem dX4_addSetting_1 : decode cX4_addSetting 1 = .ok (.iload_n 1, 1) := by decide +kernel
theorem dX4_addSetting_2 : decode cX4_addSetting 2 = .ok (.invokevirtual 69, 3) := by decide +kernel
theorem dX4_addSetting_5 : decode cX4_addSetting 5 = .ok (.istore_n 3, 1) := by decide +kernel
theorem dX4_addSetting_6 : decode cX4_addSetting 6 = .ok (.iload_n 3, 1) := by decide +kernel
theorem dX4_addSetting_7 : decode cX4_addSetting 7 = .ok (.ifCond .lt 10, 3) := by decide +kernel
theorem dX4_addSetting_10 : decode cX4_addSetting 10 = .ok (.aload_n 0, 1) := by decide +kernel
theorem dX4_addSetting_11 : decode cX4_addSetting 11 = .ok (.getfield 53, 3) := by decide +kernel
theorem dX4_addSetting_14 : decode cX4_addSetting 14 = .ok (.iload_n 3, 1) := by decide +kernel
theorem dX4_addSetting_15 : decode cX4_addSetting 15 = .ok (.iload_n 2, 1) := by decide +kernel
theorem dX4_addSetting_16 : decode cX4_addSetting 16 = .ok (.iastore, 1) := by decide +kernel
theorem dX4_addSetting_17 : decode cX4_addSetting 17 = .ok (.return_, 1) := by decide +kernel
theorem dX4_isSetInLatest_0 : decode cX4_isSetInLatest 0 = .ok (.aload_n 0, 1) := by decide +kernel
theorem dX4_isSetInLatest_1 : decode cX4_isSetInLatest 1 = .ok (.iload_n 1, 1) := by decide +kernel
theorem dX4_isSetInLatest_2 : decode cX4_isSetInLatest 2 = .ok (.invokevirtual 69, 3) := by decide +kernel
theorem dX4_isSetInLatest_5 : decode cX4_isSetInLatest 5 = .ok (.istore_n 2, 1) := by decide +kernel
theorem dX4_isSetInLatest_6 : decode cX4_isSetInLatest 6 = .ok (.iload_n 2, 1) := by decide +kernel
theorem dX4_isSetInLatest_7 : decode cX4_isSetInLatest 7 = .ok (.ifCond .lt 16, 3) := by decide +kernel
theorem dX4_isSetInLatest_10 : decode cX4_isSetInLatest 10 = .ok (.aload_n 0, 1) := by decide +kernel
theorem dX4_isSetInLatest_11 : decode cX4_isSetInLatest 11 = .ok (.getfield 53, 3) := by decide +kernel
theorem dX4_isSetInLatest_14 : decode cX4_isSetInLatest 14 = .ok (.iload_n 2, 1) := by decide +kernel
theorem dX4_isSetInLatest_15 : decode cX4_isSetInLatest 15 = .ok (.iaload, 1) := by decide +kernel
theorem dX4_isSetInLatest_16 : decode cX4_isSetInLatest 16 = .ok (.ifCond .lt 7, 3) := by decide +kernel
theorem dX4_isSetInLatest_19 : decode cX4_isSetInLatest 19 = .ok (.iconst 1, 1) := by decide +kernel
theorem dX4_isSetInLatest_20 : decode cX4_isSetInLatest 20 = .ok (.goto 4, 3) := by decide +kernel
theorem dX4_isSetInLatest_23 : decode cX4_isSetInLatest 23 = .ok (.iconst 0, 1) := by decide +kernel
theorem dX4_isSetInLatest_24 : decode cX4_isSetInLatest 24 = .ok (.ireturn, 1) := by decide +kernel
theorem dX4_latestBranches_0 : decode cX4_latestBranches 0 = .ok (.aload_n 0, 1) := by decide +kernel
theorem dX4_latestBranches_1 : decode cX4_latestBranches 1 = .ok (.getfield 62, 3) := by decide +kernel
theorem dX4_latestBranches_4 : decode cX4_latestBranches 4 = .ok (.ifCond .le 17, 3) := by decide +kernel
theorem dX4_latestBranches_7 : decode cX4_latestBranches 7 = .ok (.aload_n 0, 1) := by decide +kernel
theorem dX4_latestBranches_8 : decode cX4_latestBranches 8 = .ok (.getfield 47, 3) := by decide +kernel
theorem dX4_latestBranches_11 : decode cX4_latestBranches 11 = .ok (.aload_n 0, 1) := by decide +kernel
theorem dX4_latestBranches_12 : decode cX4_latestBranches 12 = .ok (.getfield 62, 3) := by decide +kernel
theorem dX4_latestBranches_15 : decode cX4_latestBranches 15 = .ok (.iconst 1, 1) := by decide +kernel
theorem dX4_latestBranches_16 : decode cX4_latestBranches 16 = .ok (.isub, 1) := by decide +kernel
theorem dX4_latestBranches_17 : decode cX4_latestBranches 17 = .ok (.iaload, 1) := by decide +kernel
theorem dX4_latestBranches_18 : decode cX4_latestBranches 18 = .ok (.goto 4, 3) := by decide +kernel
theorem dX4_latestBranches_21 : decode cX4_latestBranches 21 = .ok (.iconst 0, 1) := by decide +kernel
theorem dX4_latestBranches_22 : decode cX4_latestBranches 22 = .ok (.ireturn, 1) := by decide +kernel
theorem dX4_latestChances_0 : decode cX4_latestChances 0 = .ok (.iconst 0, 1) := by decide +kernel
theorem dX4_latestChances_1 : decode cX4_latestChances 1 = .ok (.istore_n 1, 1) := by decide +kernel
theorem dX4_latestChances_2 : decode cX4_latestChances 2 = .ok (.iconst 0, 1) := by decide +kernel
theorem dX4_latestChances_3 : decode cX4_latestChances 3 = .ok (.istore_n 2, 1) := by decide +kernel
theorem dX4_latestChances_4 : decode cX4_latestChances 4 = .ok (.iload_n 2, 1) := by decide +kernel
theorem dX4_latestChances_5 : decode cX4_latestChances 5 = .ok (.aload_n 0, 1) := by decide +kernel
theorem dX4_latestChances_6 : decode cX4_latestChances 6 = .ok (.invokevirtual 65, 3) := by decide +kernel
theorem dX4_latestChances_9 : decode cX4_latestChances 9 = .ok (.if_icmp .ge 27, 3) := by decide +kernel
theorem dX4_latestChances_12 : decode cX4_latestChances 12 = .ok (.iload_n 1, 1) := by decide +kernel
theorem dX4_latestChances_13 : decode cX4_latestChances 13 = .ok (.aload_n 0, 1) := by decide +kernel
theorem dX4_latestChances_14 : decode cX4_latestChances 14 = .ok (.getfield 50, 3) := by decide +kernel
theorem dX4_latestChances_17 : decode cX4_latestChances 17 = .ok (.aload_n 0, 1) := by decide +kernel
theorem dX4_latestChances_18 : decode cX4_latestChances 18 = .ok (.getfield 62, 3) := by decide +kernel
theorem dX4_latestChances_21 : decode cX4_latestChances 21 = .ok (.iconst 1, 1) := by decide +kernel
theorem dX4_latestChances_22 : decode cX4_latestChances 22 = .ok (.isub, 1) := by decide +kernel
theorem dX4_latestChances_23 : decode cX4_latestChances 23 = .ok (.iconst 4, 1) := by decide +kernel
theorem dX4_latestChances_24 : decode cX4_latestChances 24 = .ok (.imul, 1) := by decide +kernel
theorem dX4_latestChances_25 : decode cX4_latestChances 25 = .ok (.iload_n 2, 1) := by decide +kernel
theorem dX4_latestChances_26 : decode cX4_latestChances 26 = .ok (.iadd, 1) := by decide +kernel
theorem dX4_latestChances_27 : decode cX4_latestChances 27 = .ok (.iaload, 1) := by decide +kernel
theorem dX4_latestChances_28 : decode cX4_latestChances 28 = .ok (.iadd, 1) := by decide +kernel
theorem dX4_latestChances_29 : decode cX4_latestChances 29 = .ok (.istore_n 1, 1) := by decide +kernel
theorem dX4_latestChances_30 : decode cX4_latestChances 30 = .ok (.iinc 2 1, 3) := by decide +kernel
theorem dX4_latestChances_33 : decode cX4_latestChances 33 = .ok (.goto (-29), 3) := by decide +kernel
theorem dX4_latestChances_36 : decode cX4_latestChances 36 = .ok (.iload_n 1, 1) := by decide +kernel
theorem dX4_latestChances_37 : decode cX4_latestChances 37 = .ok (.ireturn, 1) := by decide +kernel
theorem dX4_variableNamed_0 : decode cX4_variableNamed 0 = .ok (.aload_n 0, 1) := by decide +kernel
theorem dX4_variableNamed_1 : decode cX4_variableNamed 1 = .ok (.getfield 9, 3) := by decide +kernel
theorem dX4_variableNamed_4 : decode cX4_variableNamed 4 = .ok (.aload_n 0, 1) := by decide +kernel
theorem dX4_variableNamed_5 : decode cX4_variableNamed 5 = .ok (.getfield 56, 3) := by decide +kernel
theorem dX4_variableNamed_8 : decode cX4_variableNamed 8 = .ok (.lload_n 1, 1) := by decide +kernel
theorem dX4_variableNamed_9 : decode cX4_variableNamed 9 = .ok (.invokestatic 73, 3) := by decide +kernel
theorem dX4_variableNamed_12 : decode cX4_variableNamed 12 = .ok (.ireturn, 1) := by decide +kernel
theorem dX4_isNameTaken_0 : decode cX4_isNameTaken 0 = .ok (.aload_n 0, 1) := by decide +kernel
theorem dX4_isNameTaken_1 : decode cX4_isNameTaken 1 = .ok (.lload_n 1, 1) := by decide +kernel
theorem dX4_isNameTaken_2 : decode cX4_isNameTaken 2 = .ok (.invokevirtual 77, 3) := by decide +kernel
theorem dX4_isNameTaken_5 : decode cX4_isNameTaken 5 = .ok (.ifCond .ge 33, 3) := by decide +kernel
theorem dX4_isNameTaken_8 : decode cX4_isNameTaken 8 = .ok (.aload_n 0, 1) := by decide +kernel
theorem dX4_isNameTaken_9 : decode cX4_isNameTaken 9 = .ok (.getfield 25, 3) := by decide +kernel
theorem dX4_isNameTaken_12 : decode cX4_isNameTaken 12 = .ok (.aload_n 0, 1) := by decide +kernel
theorem dX4_isNameTaken_13 : decode cX4_isNameTaken 13 = .ok (.getfield 59, 3) := by decide +kernel
theorem dX4_isNameTaken_16 : decode cX4_isNameTaken 16 = .ok (.lload_n 1, 1) := by decide +kernel
theorem dX4_isNameTaken_17 : decode cX4_isNameTaken 17 = .ok (.invokestatic 73, 3) := by decide +kernel
theorem dX4_isNameTaken_20 : decode cX4_isNameTaken 20 = .ok (.ifCond .ge 18, 3) := by decide +kernel
theorem dX4_isNameTaken_23 : decode cX4_isNameTaken 23 = .ok (.aload_n 0, 1) := by decide +kernel
theorem dX4_isNameTaken_24 : decode cX4_isNameTaken 24 = .ok (.getfield 38, 3) := by decide +kernel
theorem dX4_isNameTaken_27 : decode cX4_isNameTaken 27 = .ok (.aload_n 0, 1) := by decide +kernel
theorem dX4_isNameTaken_28 : decode cX4_isNameTaken 28 = .ok (.getfield 62, 3) := by decide +kernel
theorem dX4_isNameTaken_31 : decode cX4_isNameTaken 31 = .ok (.lload_n 1, 1) := by decide +kernel
theorem dX4_isNameTaken_32 : decode cX4_isNameTaken 32 = .ok (.invokestatic 73, 3) := by decide +kernel
theorem dX4_isNameTaken_35 : decode cX4_isNameTaken 35 = .ok (.ifCond .lt 7, 3) := by decide +kernel
theorem dX4_isNameTaken_38 : decode cX4_isNameTaken 38 = .ok (.iconst 1, 1) := by decide +kernel
theorem dX4_isNameTaken_39 : decode cX4_isNameTaken 39 = .ok (.goto 4, 3) := by decide +kernel
theorem dX4_isNameTaken_42 : decode cX4_isNameTaken 42 = .ok (.iconst 0, 1) := by decide +kernel
theorem dX4_isNameTaken_43 : decode cX4_isNameTaken 43 = .ok (.ireturn, 1) := by decide +kernel
theorem dX4_latestSetting_0 : decode cX4_latestSetting 0 = .ok (.aload_n 0, 1) := by decide +kernel
theorem dX4_latestSetting_1 : decode cX4_latestSetting 1 = .ok (.invokevirtual 65, 3) := by decide +kernel
theorem dX4_latestSetting_4 : decode cX4_latestSetting 4 = .ok (.istore_n 2, 1) := by decide +kernel
theorem dX4_latestSetting_5 : decode cX4_latestSetting 5 = .ok (.iload_n 2, 1) := by decide +kernel
theorem dX4_latestSetting_6 : decode cX4_latestSetting 6 = .ok (.ifCond .eq 13, 3) := by decide +kernel
theorem dX4_latestSetting_9 : decode cX4_latestSetting 9 = .ok (.iload_n 1, 1) := by decide +kernel
theorem dX4_latestSetting_10 : decode cX4_latestSetting 10 = .ok (.ifCond .lt 9, 3) := by decide +kernel
theorem dX4_latestSetting_13 : decode cX4_latestSetting 13 = .ok (.iload_n 1, 1) := by decide +kernel
theorem dX4_latestSetting_14 : decode cX4_latestSetting 14 = .ok (.bipush 6, 2) := by decide +kernel
theorem dX4_latestSetting_16 : decode cX4_latestSetting 16 = .ok (.if_icmp .lt 5, 3) := by decide +kernel
theorem dX4_latestSetting_19 : decode cX4_latestSetting 19 = .ok (.iconst (-1), 1) := by decide +kernel
theorem dX4_latestSetting_20 : decode cX4_latestSetting 20 = .ok (.ireturn, 1) := by decide +kernel
theorem dX4_latestSetting_21 : decode cX4_latestSetting 21 = .ok (.aload_n 0, 1) := by decide +kernel
theorem dX4_latestSetting_22 : decode cX4_latestSetting 22 = .ok (.getfield 62, 3) := by decide +kernel
theorem dX4_latestSetting_25 : decode cX4_latestSetting 25 = .ok (.iconst 1, 1) := by decide +kernel
theorem dX4_latestSetting_26 : decode cX4_latestSetting 26 = .ok (.isub, 1) := by decide +kernel
theorem dX4_latestSetting_27 : decode cX4_latestSetting 27 = .ok (.iconst 4, 1) := by decide +kernel
theorem dX4_latestSetting_28 : decode cX4_latestSetting 28 = .ok (.imul, 1) := by decide +kernel
theorem dX4_latestSetting_29 : decode cX4_latestSetting 29 = .ok (.iload_n 2, 1) := by decide +kernel
theorem dX4_latestSetting_30 : decode cX4_latestSetting 30 = .ok (.iadd, 1) := by decide +kernel
theorem dX4_latestSetting_31 : decode cX4_latestSetting 31 = .ok (.iconst 1, 1) := by decide +kernel
theorem dX4_latestSetting_32 : decode cX4_latestSetting 32 = .ok (.isub, 1) := by decide +kernel
theorem dX4_latestSetting_33 : decode cX4_latestSetting 33 = .ok (.istore_n 3, 1) := by decide +kernel
theorem dX4_latestSetting_34 : decode cX4_latestSetting 34 = .ok (.iload_n 3, 1) := by decide +kernel
theorem dX4_latestSetting_35 : decode cX4_latestSetting 35 = .ok (.bipush 6, 2) := by decide +kernel
theorem dX4_latestSetting_37 : decode cX4_latestSetting 37 = .ok (.imul, 1) := by decide +kernel
theorem dX4_latestSetting_38 : decode cX4_latestSetting 38 = .ok (.iload_n 1, 1) := by decide +kernel
theorem dX4_latestSetting_39 : decode cX4_latestSetting 39 = .ok (.iadd, 1) := by decide +kernel
theorem dX4_latestSetting_40 : decode cX4_latestSetting 40 = .ok (.ireturn, 1) := by decide +kernel
theorem dX4_indexOf_0 : decode cX4_indexOf 0 = .ok (.iconst 0, 1) := by decide +kernel
theorem dX4_indexOf_1 : decode cX4_indexOf 1 = .ok (.istore 4, 2) := by decide +kernel
theorem dX4_indexOf_3 : decode cX4_indexOf 3 = .ok (.iload 4, 2) := by decide +kernel
theorem dX4_indexOf_5 : decode cX4_indexOf 5 = .ok (.iload_n 1, 1) := by decide +kernel
theorem dX4_indexOf_6 : decode cX4_indexOf 6 = .ok (.if_icmp .ge 28, 3) := by decide +kernel
theorem dX4_indexOf_9 : decode cX4_indexOf 9 = .ok (.iload 4, 2) := by decide +kernel
theorem dX4_indexOf_11 : decode cX4_indexOf 11 = .ok (.aload_n 0, 1) := by decide +kernel
theorem dX4_indexOf_12 : decode cX4_indexOf 12 = .ok (.arraylength, 1) := by decide +kernel
theorem dX4_indexOf_13 : decode cX4_indexOf 13 = .ok (.if_icmp .ge 21, 3) := by decide +kernel
theorem dX4_indexOf_16 : decode cX4_indexOf 16 = .ok (.aload_n 0, 1) := by decide +kernel
theorem dX4_indexOf_17 : decode cX4_indexOf 17 = .ok (.iload 4, 2) := by decide +kernel
theorem dX4_indexOf_19 : decode cX4_indexOf 19 = .ok (.laload, 1) := by decide +kernel
theorem dX4_indexOf_20 : decode cX4_indexOf 20 = .ok (.lload_n 2, 1) := by decide +kernel
theorem dX4_indexOf_21 : decode cX4_indexOf 21 = .ok (.lcmp, 1) := by decide +kernel
theorem dX4_indexOf_22 : decode cX4_indexOf 22 = .ok (.ifCond .ne 6, 3) := by decide +kernel
theorem dX4_indexOf_25 : decode cX4_indexOf 25 = .ok (.iload 4, 2) := by decide +kernel
theorem dX4_indexOf_27 : decode cX4_indexOf 27 = .ok (.ireturn, 1) := by decide +kernel
theorem dX4_indexOf_28 : decode cX4_indexOf 28 = .ok (.iinc 4 1, 3) := by decide +kernel
theorem dX4_indexOf_31 : decode cX4_indexOf 31 = .ok (.goto (-28), 3) := by decide +kernel
theorem dX4_indexOf_34 : decode cX4_indexOf 34 = .ok (.iconst (-1), 1) := by decide +kernel
theorem dX4_indexOf_35 : decode cX4_indexOf 35 = .ok (.ireturn, 1) := by decide +kernel
theorem dX5_init_0 : decode cX5_init 0 = .ok (.aload_n 0, 1) := by decide +kernel
theorem dX5_init_1 : decode cX5_init 1 = .ok (.invokespecial 3, 3) := by decide +kernel
theorem dX5_init_4 : decode cX5_init 4 = .ok (.aload_n 0, 1) := by decide +kernel
theorem dX5_init_5 : decode cX5_init 5 = .ok (.sipush 600, 3) := by decide +kernel
theorem dX5_init_8 : decode cX5_init 8 = .ok (.newarray .int, 2) := by decide +kernel
theorem dX5_init_10 : decode cX5_init 10 = .ok (.putfield 9, 3) := by decide +kernel
theorem dX5_init_13 : decode cX5_init 13 = .ok (.aload_n 0, 1) := by decide +kernel
theorem dX5_init_14 : decode cX5_init 14 = .ok (.bipush 100, 2) := by decide +kernel
theorem dX5_init_16 : decode cX5_init 16 = .ok (.newarray .int, 2) := by decide +kernel
theorem dX5_init_18 : decode cX5_init 18 = .ok (.putfield 15, 3) := by decide +kernel
theorem dX5_init_21 : decode cX5_init 21 = .ok (.aload_n 0, 1) := by decide +kernel
theorem dX5_init_22 : decode cX5_init 22 = .ok (.sipush 1600, 3) := by decide +kernel
theorem dX5_init_25 : decode cX5_init 25 = .ok (.newarray .int, 2) := by decide +kernel
theorem dX5_init_27 : decode cX5_init 27 = .ok (.putfield 18, 3) := by decide +kernel
theorem dX5_init_30 : decode cX5_init 30 = .ok (.aload_n 0, 1) := by decide +kernel
theorem dX5_init_31 : decode cX5_init 31 = .ok (.sipush 6400, 3) := by decide +kernel
theorem dX5_init_34 : decode cX5_init 34 = .ok (.newarray .int, 2) := by decide +kernel
theorem dX5_init_36 : decode cX5_init 36 = .ok (.putfield 21, 3) := by decide +kernel
theorem dX5_init_39 : decode cX5_init 39 = .ok (.aload_n 0, 1) := by decide +kernel
theorem dX5_init_40 : decode cX5_init 40 = .ok (.sipush 300, 3) := by decide +kernel
theorem dX5_init_43 : decode cX5_init 43 = .ok (.newarray .long, 2) := by decide +kernel
theorem dX5_init_45 : decode cX5_init 45 = .ok (.putfield 24, 3) := by decide +kernel
theorem dX5_init_48 : decode cX5_init 48 = .ok (.aload_n 0, 1) := by decide +kernel
theorem dX5_init_49 : decode cX5_init 49 = .ok (.bipush 6, 2) := by decide +kernel
theorem dX5_init_51 : decode cX5_init 51 = .ok (.newarray .int, 2) := by decide +kernel
theorem dX5_init_53 : decode cX5_init 53 = .ok (.putfield 28, 3) := by decide +kernel
theorem dX5_init_56 : decode cX5_init 56 = .ok (.aload_n 0, 1) := by decide +kernel
theorem dX5_init_57 : decode cX5_init 57 = .ok (.aload_n 1, 1) := by decide +kernel
theorem dX5_init_58 : decode cX5_init 58 = .ok (.putfield 31, 3) := by decide +kernel
theorem dX5_init_61 : decode cX5_init 61 = .ok (.aload_n 0, 1) := by decide +kernel
theorem dX5_init_62 : decode cX5_init 62 = .ok (.aload_n 2, 1) := by decide +kernel
theorem dX5_init_63 : decode cX5_init 63 = .ok (.putfield 35, 3) := by decide +kernel
theorem dX5_init_66 : decode cX5_init 66 = .ok (.return_, 1) := by decide +kernel
theorem dX5_clear_0 : decode cX5_clear 0 = .ok (.aload_n 0, 1) := by decide +kernel
theorem dX5_clear_1 : decode cX5_clear 1 = .ok (.iconst 0, 1) := by decide +kernel
theorem dX5_clear_2 : decode cX5_clear 2 = .ok (.putfield 39, 3) := by decide +kernel
theorem dX5_clear_5 : decode cX5_clear 5 = .ok (.return_, 1) := by decide +kernel
theorem dX5_explore_0 : decode cX5_explore 0 = .ok (.aload_n 0, 1) := by decide +kernel
theorem dX5_explore_1 : decode cX5_explore 1 = .ok (.iconst 0, 1) := by decide +kernel
theorem dX5_explore_2 : decode cX5_explore 2 = .ok (.putfield 43, 3) := by decide +kernel
theorem dX5_explore_5 : decode cX5_explore 5 = .ok (.aload_n 0, 1) := by decide +kernel
theorem dX5_explore_6 : decode cX5_explore 6 = .ok (.iconst (-1), 1) := by decide +kernel
theorem dX5_explore_7 : decode cX5_explore 7 = .ok (.putfield 46, 3) := by decide +kernel
theorem dX5_explore_10 : decode cX5_explore 10 = .ok (.aload_n 0, 1) := by decide +kernel
theorem dX5_explore_11 : decode cX5_explore 11 = .ok (.iconst 0, 1) := by decide +kernel
theorem dX5_explore_12 : decode cX5_explore 12 = .ok (.putfield 39, 3) := by decide +kernel
theorem dX5_explore_15 : decode cX5_explore 15 = .ok (.aload_n 0, 1) := by decide +kernel
theorem dX5_explore_16 : decode cX5_explore 16 = .ok (.getfield 31, 3) := by decide +kernel
theorem dX5_explore_19 : decode cX5_explore 19 = .ok (.getfield 49, 3) := by decide +kernel
theorem dX5_explore_22 : decode cX5_explore 22 = .ok (.iconst 0, 1) := by decide +kernel
theorem dX5_explore_23 : decode cX5_explore 23 = .ok (.aload_n 0, 1) := by decide +kernel
theorem dX5_explore_24 : decode cX5_explore 24 = .ok (.getfield 28, 3) := by decide +kernel
theorem dX5_explore_27 : decode cX5_explore 27 = .ok (.iconst 0, 1) := by decide +kernel
theorem dX5_explore_28 : decode cX5_explore 28 = .ok (.bipush 6, 2) := by decide +kernel
theorem dX5_explore_30 : decode cX5_explore 30 = .ok (.invokestatic 54, 3) := by decide +kernel
theorem dX5_explore_33 : decode cX5_explore 33 = .ok (.aload_n 0, 1) := by decide +kernel
theorem dX5_explore_34 : decode cX5_explore 34 = .ok (.invokevirtual 60, 3) := by decide +kernel
theorem dX5_explore_37 : decode cX5_explore 37 = .ok (.pop, 1) := by decide +kernel
theorem dX5_explore_38 : decode cX5_explore 38 = .ok (.iconst 0, 1) := by decide +kernel
theorem dX5_explore_39 : decode cX5_explore 39 = .ok (.istore_n 1, 1) := by decide +kernel
theorem dX5_explore_40 : decode cX5_explore 40 = .ok (.iload_n 1, 1) := by decide +kernel
theorem dX5_explore_41 : decode cX5_explore 41 = .ok (.bipush 100, 2) := by decide +kernel
theorem dX5_explore_43 : decode cX5_explore 43 = .ok (.if_icmp .ge 29, 3) := by decide +kernel
theorem dX5_explore_46 : decode cX5_explore 46 = .ok (.iload_n 1, 1) := by decide +kernel
theorem dX5_explore_47 : decode cX5_explore 47 = .ok (.aload_n 0, 1) := by decide +kernel
theorem dX5_explore_48 : decode cX5_explore 48 = .ok (.getfield 39, 3) := by decide +kernel
theorem dX5_explore_51 : decode cX5_explore 51 = .ok (.if_icmp .ge 21, 3) := by decide +kernel
theorem dX5_explore_54 : decode cX5_explore 54 = .ok (.aload_n 0, 1) := by decide +kernel
theorem dX5_explore_55 : decode cX5_explore 55 = .ok (.getfield 43, 3) := by decide +kernel
theorem dX5_explore_58 : decode cX5_explore 58 = .ok (.ifCond .ne 14, 3) := by decide +kernel
theorem dX5_explore_61 : decode cX5_explore 61 = .ok (.aload_n 0, 1) := by decide +kernel
theorem dX5_explore_62 : decode cX5_explore 62 = .ok (.iload_n 1, 1) := by decide +kernel
theorem dX5_explore_63 : decode cX5_explore 63 = .ok (.invokevirtual 64, 3) := by decide +kernel
theorem dX5_explore_66 : decode cX5_explore 66 = .ok (.iinc 1 1, 3) := by decide +kernel
theorem dX5_explore_69 : decode cX5_explore 69 = .ok (.goto (-29), 3) := by decide +kernel
theorem dX5_explore_72 : decode cX5_explore 72 = .ok (.aload_n 0, 1) := by decide +kernel
theorem dX5_explore_73 : decode cX5_explore 73 = .ok (.getfield 43, 3) := by decide +kernel
theorem dX5_explore_76 : decode cX5_explore 76 = .ok (.ireturn, 1) := by decide +kernel
theorem dX5_commandOf_0 : decode cX5_commandOf 0 = .ok (.aload_n 0, 1) := by decide +kernel
theorem dX5_commandOf_1 : decode cX5_commandOf 1 = .ok (.getfield 18, 3) := by decide +kernel
theorem dX5_commandOf_4 : decode cX5_commandOf 4 = .ok (.iload_n 1, 1) := by decide +kernel
theorem dX5_commandOf_5 : decode cX5_commandOf 5 = .ok (.bipush 16, 2) := by decide +kernel
theorem dX5_commandOf_7 : decode cX5_commandOf 7 = .ok (.imul, 1) := by decide +kernel
theorem dX5_commandOf_8 : decode cX5_commandOf 8 = .ok (.iload_n 2, 1) := by decide +kernel
theorem dX5_commandOf_9 : decode cX5_commandOf 9 = .ok (.iadd, 1) := by decide +kernel
theorem dX5_commandOf_10 : decode cX5_commandOf 10 = .ok (.invokestatic 68, 3) := by decide +kernel
theorem dX5_commandOf_13 : decode cX5_commandOf 13 = .ok (.ireturn, 1) := by decide +kernel
theorem dX5_branchesOf_0 : decode cX5_branchesOf 0 = .ok (.aload_n 0, 1) := by decide +kernel
theorem dX5_branchesOf_1 : decode cX5_branchesOf 1 = .ok (.getfield 31, 3) := by decide +kernel
theorem dX5_branchesOf_4 : decode cX5_branchesOf 4 = .ok (.getfield 72, 3) := by decide +kernel
theorem dX5_branchesOf_7 : decode cX5_branchesOf 7 = .ok (.aload_n 0, 1) := by decide +kernel
theorem dX5_branchesOf_8 : decode cX5_branchesOf 8 = .ok (.iload_n 1, 1) := by decide +kernel
theorem dX5_branchesOf_9 : decode cX5_branchesOf 9 = .ok (.iload_n 2, 1) := by decide +kernel
theorem dX5_branchesOf_10 : decode cX5_branchesOf 10 = .ok (.invokevirtual 75, 3) := by decide +kernel
theorem dX5_branchesOf_13 : decode cX5_branchesOf 13 = .ok (.invokestatic 68, 3) := by decide +kernel
theorem dX5_branchesOf_16 : decode cX5_branchesOf 16 = .ok (.ireturn, 1) := by decide +kernel
theorem dX5_chanceOf_0 : decode cX5_chanceOf 0 = .ok (.aload_n 0, 1) := by decide +kernel
theorem dX5_chanceOf_1 : decode cX5_chanceOf 1 = .ok (.getfield 31, 3) := by decide +kernel
theorem dX5_chanceOf_4 : decode cX5_chanceOf 4 = .ok (.getfield 79, 3) := by decide +kernel
theorem dX5_chanceOf_7 : decode cX5_chanceOf 7 = .ok (.aload_n 0, 1) := by decide +kernel
theorem dX5_chanceOf_8 : decode cX5_chanceOf 8 = .ok (.iload_n 1, 1) := by decide +kernel
theorem dX5_chanceOf_9 : decode cX5_chanceOf 9 = .ok (.iload_n 2, 1) := by decide +kernel
theorem dX5_chanceOf_10 : decode cX5_chanceOf 10 = .ok (.invokevirtual 75, 3) := by decide +kernel
theorem dX5_chanceOf_13 : decode cX5_chanceOf 13 = .ok (.iconst 4, 1) := by decide +kernel
theorem dX5_chanceOf_14 : decode cX5_chanceOf 14 = .ok (.imul, 1) := by decide +kernel
theorem dX5_chanceOf_15 : decode cX5_chanceOf 15 = .ok (.iload_n 3, 1) := by decide +kernel
theorem dX5_chanceOf_16 : decode cX5_chanceOf 16 = .ok (.iadd, 1) := by decide +kernel
theorem dX5_chanceOf_17 : decode cX5_chanceOf 17 = .ok (.invokestatic 68, 3) := by decide +kernel
theorem dX5_chanceOf_20 : decode cX5_chanceOf 20 = .ok (.ireturn, 1) := by decide +kernel
theorem dX5_targetOf_0 : decode cX5_targetOf 0 = .ok (.aload_n 0, 1) := by decide +kernel
theorem dX5_targetOf_1 : decode cX5_targetOf 1 = .ok (.getfield 21, 3) := by decide +kernel
theorem dX5_targetOf_4 : decode cX5_targetOf 4 = .ok (.iload_n 1, 1) := by decide +kernel
theorem dX5_targetOf_5 : decode cX5_targetOf 5 = .ok (.bipush 16, 2) := by decide +kernel
theorem dX5_targetOf_7 : decode cX5_targetOf 7 = .ok (.imul, 1) := by decide +kernel
theorem dX5_targetOf_8 : decode cX5_targetOf 8 = .ok (.iload_n 2, 1) := by decide +kernel
theorem dX5_targetOf_9 : decode cX5_targetOf 9 = .ok (.iadd, 1) := by decide +kernel
theorem dX5_targetOf_10 : decode cX5_targetOf 10 = .ok (.iconst 4, 1) := by decide +kernel
theorem dX5_targetOf_11 : decode cX5_targetOf 11 = .ok (.imul, 1) := by decide +kernel
theorem dX5_targetOf_12 : decode cX5_targetOf 12 = .ok (.iload_n 3, 1) := by decide +kernel
theorem dX5_targetOf_13 : decode cX5_targetOf 13 = .ok (.iadd, 1) := by decide +kernel
theorem dX5_targetOf_14 : decode cX5_targetOf 14 = .ok (.invokestatic 68, 3) := by decide +kernel
theorem dX5_targetOf_17 : decode cX5_targetOf 17 = .ok (.ireturn, 1) := by decide +kernel
theorem dX5_gainOf_0 : decode cX5_gainOf 0 = .ok (.aload_n 0, 1) := by decide +kernel
theorem dX5_gainOf_1 : decode cX5_gainOf 1 = .ok (.getfield 31, 3) := by decide +kernel
theorem dX5_gainOf_4 : decode cX5_gainOf 4 = .ok (.getfield 82, 3) := by decide +kernel
theorem dX5_gainOf_7 : decode cX5_gainOf 7 = .ok (.iload_n 3, 1) := by decide +kernel
theorem dX5_gainOf_8 : decode cX5_gainOf 8 = .ok (.invokestatic 68, 3) := by decide +kernel
theorem dX5_gainOf_11 : decode cX5_gainOf 11 = .ok (.istore 4, 2) := by decide +kernel
theorem dX5_gainOf_13 : decode cX5_gainOf 13 = .ok (.iload 4, 2) := by decide +kernel
theorem dX5_gainOf_15 : decode cX5_gainOf 15 = .ok (.ifCond .lt 16, 3) := by decide +kernel
theorem dX5_gainOf_18 : decode cX5_gainOf 18 = .ok (.iload 4, 2) := by decide +kernel
theorem dX5_gainOf_20 : decode cX5_gainOf 20 = .ok (.aload_n 0, 1) := by decide +kernel
theorem dX5_gainOf_21 : decode cX5_gainOf 21 = .ok (.iload_n 1, 1) := by decide +kernel
theorem dX5_gainOf_22 : decode cX5_gainOf 22 = .ok (.iload_n 2, 1) := by decide +kernel
theorem dX5_gainOf_23 : decode cX5_gainOf 23 = .ok (.invokevirtual 75, 3) := by decide +kernel
theorem dX5_gainOf_26 : decode cX5_gainOf 26 = .ok (.if_icmp .eq 5, 3) := by decide +kernel
theorem dX5_gainOf_29 : decode cX5_gainOf 29 = .ok (.lconst 0, 1) := by decide +kernel
theorem dX5_gainOf_30 : decode cX5_gainOf 30 = .ok (.lreturn, 1) := by decide +kernel
theorem dX5_gainOf_31 : decode cX5_gainOf 31 = .ok (.aload_n 0, 1) := by decide +kernel
theorem dX5_gainOf_32 : decode cX5_gainOf 32 = .ok (.getfield 24, 3) := by decide +kernel
theorem dX5_gainOf_35 : decode cX5_gainOf 35 = .ok (.iload_n 1, 1) := by decide +kernel
theorem dX5_gainOf_36 : decode cX5_gainOf 36 = .ok (.iconst 3, 1) := by decide +kernel
theorem dX5_gainOf_37 : decode cX5_gainOf 37 = .ok (.imul, 1) := by decide +kernel
theorem dX5_gainOf_38 : decode cX5_gainOf 38 = .ok (.iload_n 3, 1) := by decide +kernel
theorem dX5_gainOf_39 : decode cX5_gainOf 39 = .ok (.iadd, 1) := by decide +kernel
theorem dX5_gainOf_40 : decode cX5_gainOf 40 = .ok (.invokestatic 85, 3) := by decide +kernel
theorem dX5_gainOf_43 : decode cX5_gainOf 43 = .ok (.lreturn, 1) := by decide +kernel
theorem dX5_isGoal_0 : decode cX5_isGoal 0 = .ok (.aload_n 0, 1) := by decide +kernel
theorem dX5_isGoal_1 : decode cX5_isGoal 1 = .ok (.getfield 15, 3) := by decide +kernel
theorem dX5_isGoal_4 : decode cX5_isGoal 4 = .ok (.iload_n 1, 1) := by decide +kernel
theorem dX5_isGoal_5 : decode cX5_isGoal 5 = .ok (.invokestatic 68, 3) := by decide +kernel
theorem dX5_isGoal_8 : decode cX5_isGoal 8 = .ok (.ifCond .ge 7, 3) := by decide +kernel
theorem dX5_isGoal_11 : decode cX5_isGoal 11 = .ok (.iconst 1, 1) := by decide +kernel
theorem dX5_isGoal_12 : decode cX5_isGoal 12 = .ok (.goto 4, 3) := by decide +kernel
theorem dX5_isGoal_15 : decode cX5_isGoal 15 = .ok (.iconst 0, 1) := by decide +kernel
theorem dX5_isGoal_16 : decode cX5_isGoal 16 = .ok (.ireturn, 1) := by decide +kernel
theorem dX5_visit_0 : decode cX5_visit 0 = .ok (.iload_n 1, 1) := by decide +kernel
theorem dX5_visit_1 : decode cX5_visit 1 = .ok (.bipush 6, 2) := by decide +kernel
theorem dX5_visit_3 : decode cX5_visit 3 = .ok (.imul, 1) := by decide +kernel
theorem dX5_visit_4 : decode cX5_visit 4 = .ok (.istore_n 2, 1) := by decide +kernel
theorem dX5_visit_5 : decode cX5_visit 5 = .ok (.iconst 0, 1) := by decide +kernel
theorem dX5_visit_6 : decode cX5_visit 6 = .ok (.istore_n 3, 1) := by decide +kernel
theorem dX5_visit_7 : decode cX5_visit 7 = .ok (.iload_n 3, 1) := by decide +kernel
theorem dX5_visit_8 : decode cX5_visit 8 = .ok (.aload_n 0, 1) := by decide +kernel
theorem dX5_visit_9 : decode cX5_visit 9 = .ok (.getfield 31, 3) := by decide +kernel
theorem dX5_visit_12 : decode cX5_visit 12 = .ok (.getfield 93, 3) := by decide +kernel
theorem dX5_visit_15 : decode cX5_visit 15 = .ok (.if_icmp .ge 40, 3) := by decide +kernel
theorem dX5_visit_18 : decode cX5_visit 18 = .ok (.aload_n 0, 1) := by decide +kernel
theorem dX5_visit_19 : decode cX5_visit 19 = .ok (.getfield 24, 3) := by decide +kernel
theorem dX5_visit_22 : decode cX5_visit 22 = .ok (.iload_n 1, 1) := by decide +kernel
theorem dX5_visit_23 : decode cX5_visit 23 = .ok (.iconst 3, 1) := by decide +kernel
theorem dX5_visit_24 : decode cX5_visit 24 = .ok (.imul, 1) := by decide +kernel
theorem dX5_visit_25 : decode cX5_visit 25 = .ok (.iload_n 3, 1) := by decide +kernel
theorem dX5_visit_26 : decode cX5_visit 26 = .ok (.iadd, 1) := by decide +kernel
theorem dX5_visit_27 : decode cX5_visit 27 = .ok (.aload_n 0, 1) := by decide +kernel
theorem dX5_visit_28 : decode cX5_visit 28 = .ok (.getfield 35, 3) := by decide +kernel
theorem dX5_visit_31 : decode cX5_visit 31 = .ok (.aload_n 0, 1) := by decide +kernel
theorem dX5_visit_32 : decode cX5_visit 32 = .ok (.getfield 31, 3) := by decide +kernel
theorem dX5_visit_35 : decode cX5_visit 35 = .ok (.getfield 96, 3) := by decide +kernel
theorem dX5_visit_38 : decode cX5_visit 38 = .ok (.iload_n 3, 1) := by decide +kernel
theorem dX5_visit_39 : decode cX5_visit 39 = .ok (.iaload, 1) := by decide +kernel
theorem dX5_visit_40 : decode cX5_visit 40 = .ok (.aload_n 0, 1) := by decide +kernel
theorem dX5_visit_41 : decode cX5_visit 41 = .ok (.getfield 9, 3) := by decide +kernel
theorem dX5_visit_44 : decode cX5_visit 44 = .ok (.iload_n 2, 1) := by decide +kernel
theorem dX5_visit_45 : decode cX5_visit 45 = .ok (.invokevirtual 99, 3) := by decide +kernel
theorem dX5_visit_48 : decode cX5_visit 48 = .ok (.lastore, 1) := by decide +kernel
theorem dX5_visit_49 : decode cX5_visit 49 = .ok (.iinc 3 1, 3) := by decide +kernel
theorem dX5_visit_52 : decode cX5_visit 52 = .ok (.goto (-45), 3) := by decide +kernel
theorem dX5_visit_55 : decode cX5_visit 55 = .ok (.aload_n 0, 1) := by decide +kernel
theorem dX5_visit_56 : decode cX5_visit 56 = .ok (.getfield 35, 3) := by decide +kernel
theorem dX5_visit_59 : decode cX5_visit 59 = .ok (.aload_n 0, 1) := by decide +kernel
theorem dX5_visit_60 : decode cX5_visit 60 = .ok (.getfield 31, 3) := by decide +kernel
theorem dX5_visit_63 : decode cX5_visit 63 = .ok (.getfield 105, 3) := by decide +kernel
theorem dX5_visit_66 : decode cX5_visit 66 = .ok (.aload_n 0, 1) := by decide +kernel
theorem dX5_visit_67 : decode cX5_visit 67 = .ok (.getfield 9, 3) := by decide +kernel
theorem dX5_visit_70 : decode cX5_visit 70 = .ok (.iload_n 2, 1) := by decide +kernel
theorem dX5_visit_71 : decode cX5_visit 71 = .ok (.invokevirtual 99, 3) := by decide +kernel
theorem dX5_visit_74 : decode cX5_visit 74 = .ok (.lconst 0, 1) := by decide +kernel
theorem dX5_visit_75 : decode cX5_visit 75 = .ok (.lcmp, 1) := by decide +kernel
theorem dX5_visit_76 : decode cX5_visit 76 = .ok (.ifCond .eq 7, 3) := by decide +kernel
theorem dX5_visit_79 : decode cX5_visit 79 = .ok (.iconst 1, 1) := by decide +kernel
theorem dX5_visit_80 : decode cX5_visit 80 = .ok (.goto 4, 3) := by decide +kernel
theorem dX5_visit_83 : decode cX5_visit 83 = .ok (.iconst 0, 1) := by decide +kernel
theorem dX5_visit_84 : decode cX5_visit 84 = .ok (.istore_n 3, 1) := by decide +kernel
theorem dX5_visit_85 : decode cX5_visit 85 = .ok (.aload_n 0, 1) := by decide +kernel
theorem dX5_visit_86 : decode cX5_visit 86 = .ok (.getfield 15, 3) := by decide +kernel
theorem dX5_visit_89 : decode cX5_visit 89 = .ok (.iload_n 1, 1) := by decide +kernel
theorem dX5_visit_90 : decode cX5_visit 90 = .ok (.iload_n 3, 1) := by decide +kernel
theorem dX5_visit_91 : decode cX5_visit 91 = .ok (.ifCond .eq 7, 3) := by decide +kernel
theorem dX5_visit_94 : decode cX5_visit 94 = .ok (.iconst (-1), 1) := by decide +kernel
theorem dX5_visit_95 : decode cX5_visit 95 = .ok (.goto 4, 3) := by decide +kernel
theorem dX5_visit_98 : decode cX5_visit 98 = .ok (.iconst 0, 1) := by decide +kernel
theorem dX5_visit_99 : decode cX5_visit 99 = .ok (.iastore, 1) := by decide +kernel
theorem dX5_visit_100 : decode cX5_visit 100 = .ok (.iconst 0, 1) := by decide +kernel
theorem dX5_visit_101 : decode cX5_visit 101 = .ok (.istore 4, 2) := by decide +kernel
theorem dX5_visit_103 : decode cX5_visit 103 = .ok (.iload 4, 2) := by decide +kernel
theorem dX5_visit_105 : decode cX5_visit 105 = .ok (.aload_n 0, 1) := by decide +kernel
theorem dX5_visit_106 : decode cX5_visit 106 = .ok (.getfield 31, 3) := by decide +kernel
theorem dX5_visit_109 : decode cX5_visit 109 = .ok (.getfield 108, 3) := by decide +kernel
theorem dX5_visit_112 : decode cX5_visit 112 = .ok (.if_icmp .ge 54, 3) := by decide +kernel
theorem dX5_visit_115 : decode cX5_visit 115 = .ok (.aload_n 0, 1) := by decide +kernel
theorem dX5_visit_116 : decode cX5_visit 116 = .ok (.getfield 43, 3) := by decide +kernel
theorem dX5_visit_119 : decode cX5_visit 119 = .ok (.ifCond .ne 47, 3) := by decide +kernel
theorem dX5_visit_122 : decode cX5_visit 122 = .ok (.iload_n 3, 1) := by decide +kernel
theorem dX5_visit_123 : decode cX5_visit 123 = .ok (.ifCond .ne 43, 3) := by decide +kernel
theorem dX5_visit_126 : decode cX5_visit 126 = .ok (.aload_n 0, 1) := by decide +kernel
theorem dX5_visit_127 : decode cX5_visit 127 = .ok (.getfield 35, 3) := by decide +kernel
theorem dX5_visit_130 : decode cX5_visit 130 = .ok (.aload_n 0, 1) := by decide +kernel
theorem dX5_visit_131 : decode cX5_visit 131 = .ok (.getfield 31, 3) := by decide +kernel
theorem dX5_visit_134 : decode cX5_visit 134 = .ok (.getfield 111, 3) := by decide +kernel
theorem dX5_visit_137 : decode cX5_visit 137 = .ok (.iload 4, 2) := by decide +kernel
theorem dX5_visit_139 : decode cX5_visit 139 = .ok (.iaload, 1) := by decide +kernel
theorem dX5_visit_140 : decode cX5_visit 140 = .ok (.aload_n 0, 1) := by decide +kernel
theorem dX5_visit_141 : decode cX5_visit 141 = .ok (.getfield 9, 3) := by decide +kernel
theorem dX5_visit_144 : decode cX5_visit 144 = .ok (.iload_n 2, 1) := by decide +kernel
theorem dX5_visit_145 : decode cX5_visit 145 = .ok (.invokevirtual 99, 3) := by decide +kernel
theorem dX5_visit_148 : decode cX5_visit 148 = .ok (.lconst 0, 1) := by decide +kernel
theorem dX5_visit_149 : decode cX5_visit 149 = .ok (.lcmp, 1) := by decide +kernel
theorem dX5_visit_150 : decode cX5_visit 150 = .ok (.ifCond .eq 10, 3) := by decide +kernel
theorem dX5_visit_153 : decode cX5_visit 153 = .ok (.aload_n 0, 1) := by decide +kernel
theorem dX5_visit_154 : decode cX5_visit 154 = .ok (.iload_n 1, 1) := by decide +kernel
theorem dX5_visit_155 : decode cX5_visit 155 = .ok (.iload 4, 2) := by decide +kernel
theorem dX5_visit_157 : decode cX5_visit 157 = .ok (.invokevirtual 114, 3) := by decide +kernel
theorem dX5_visit_160 : decode cX5_visit 160 = .ok (.iinc 4 1, 3) := by decide +kernel
theorem dX5_visit_163 : decode cX5_visit 163 = .ok (.goto (-60), 3) := by decide +kernel
theorem dX5_visit_166 : decode cX5_visit 166 = .ok (.return_, 1) := by decide +kernel
theorem dX5_addChoice_0 : decode cX5_addChoice 0 = .ok (.iload_n 1, 1) := by decide +kernel
theorem dX5_addChoice_1 : decode cX5_addChoice 1 = .ok (.bipush 16, 2) := by decide +kernel
theorem dX5_addChoice_3 : decode cX5_addChoice 3 = .ok (.imul, 1) := by decide +kernel
theorem dX5_addChoice_4 : decode cX5_addChoice 4 = .ok (.aload_n 0, 1) := by decide +kernel
theorem dX5_addChoice_5 : decode cX5_addChoice 5 = .ok (.getfield 15, 3) := by decide +kernel
theorem dX5_addChoice_8 : decode cX5_addChoice 8 = .ok (.iload_n 1, 1) := by decide +kernel
theorem dX5_addChoice_9 : decode cX5_addChoice 9 = .ok (.iaload, 1) := by decide +kernel
theorem dX5_addChoice_10 : decode cX5_addChoice 10 = .ok (.iadd, 1) := by decide +kernel
theorem dX5_addChoice_11 : decode cX5_addChoice 11 = .ok (.istore_n 3, 1) := by decide +kernel
theorem dX5_addChoice_12 : decode cX5_addChoice 12 = .ok (.aload_n 0, 1) := by decide +kernel
theorem dX5_addChoice_13 : decode cX5_addChoice 13 = .ok (.getfield 18, 3) := by decide +kernel
theorem dX5_addChoice_16 : decode cX5_addChoice 16 = .ok (.iload_n 3, 1) := by decide +kernel
theorem dX5_addChoice_17 : decode cX5_addChoice 17 = .ok (.iload_n 2, 1) := by decide +kernel
theorem dX5_addChoice_18 : decode cX5_addChoice 18 = .ok (.iastore, 1) := by decide +kernel
theorem dX5_addChoice_19 : decode cX5_addChoice 19 = .ok (.aload_n 0, 1) := by decide +kernel
theorem dX5_addChoice_20 : decode cX5_addChoice 20 = .ok (.getfield 15, 3) := by decide +kernel
theorem dX5_addChoice_23 : decode cX5_addChoice 23 = .ok (.iload_n 1, 1) := by decide +kernel
theorem dX5_addChoice_24 : decode cX5_addChoice 24 = .ok (.dup2, 1) := by decide +kernel
theorem dX5_addChoice_25 : decode cX5_addChoice 25 = .ok (.iaload, 1) := by decide +kernel
theorem dX5_addChoice_26 : decode cX5_addChoice 26 = .ok (.iconst 1, 1) := by decide +kernel
theorem dX5_addChoice_27 : decode cX5_addChoice 27 = .ok (.iadd, 1) := by decide +kernel
theorem dX5_addChoice_28 : decode cX5_addChoice 28 = .ok (.iastore, 1) := by decide +kernel
theorem dX5_addChoice_29 : decode cX5_addChoice 29 = .ok (.iconst 0, 1) := by decide +kernel
theorem dX5_addChoice_30 : decode cX5_addChoice 30 = .ok (.istore 4, 2) := by decide +kernel
theorem dX5_addChoice_32 : decode cX5_addChoice 32 = .ok (.iload 4, 2) := by decide +kernel
theorem dX5_addChoice_34 : decode cX5_addChoice 34 = .ok (.aload_n 0, 1) := by decide +kernel
theorem dX5_addChoice_35 : decode cX5_addChoice 35 = .ok (.getfield 31, 3) := by decide +kernel
theorem dX5_addChoice_38 : decode cX5_addChoice 38 = .ok (.getfield 72, 3) := by decide +kernel
theorem dX5_addChoice_41 : decode cX5_addChoice 41 = .ok (.iload_n 2, 1) := by decide +kernel
theorem dX5_addChoice_42 : decode cX5_addChoice 42 = .ok (.iaload, 1) := by decide +kernel
theorem dX5_addChoice_43 : decode cX5_addChoice 43 = .ok (.if_icmp .ge 74, 3) := by decide +kernel
theorem dX5_addChoice_46 : decode cX5_addChoice 46 = .ok (.aload_n 0, 1) := by decide +kernel
theorem dX5_addChoice_47 : decode cX5_addChoice 47 = .ok (.iload_n 1, 1) := by decide +kernel
theorem dX5_addChoice_48 : decode cX5_addChoice 48 = .ok (.iload_n 2, 1) := by decide +kernel
theorem dX5_addChoice_49 : decode cX5_addChoice 49 = .ok (.iconst 4, 1) := by decide +kernel
theorem dX5_addChoice_50 : decode cX5_addChoice 50 = .ok (.imul, 1) := by decide +kernel
theorem dX5_addChoice_51 : decode cX5_addChoice 51 = .ok (.iload 4, 2) := by decide +kernel
theorem dX5_addChoice_53 : decode cX5_addChoice 53 = .ok (.iadd, 1) := by decide +kernel
theorem dX5_addChoice_54 : decode cX5_addChoice 54 = .ok (.invokevirtual 118, 3) := by decide +kernel
theorem dX5_addChoice_57 : decode cX5_addChoice 57 = .ok (.ifCond .ne 11, 3) := by decide +kernel
theorem dX5_addChoice_60 : decode cX5_addChoice 60 = .ok (.aload_n 0, 1) := by decide +kernel
theorem dX5_addChoice_61 : decode cX5_addChoice 61 = .ok (.bipush 9, 2) := by decide +kernel
theorem dX5_addChoice_63 : decode cX5_addChoice 63 = .ok (.iload_n 2, 1) := by decide +kernel
theorem dX5_addChoice_64 : decode cX5_addChoice 64 = .ok (.invokevirtual 122, 3) := by decide +kernel
theorem dX5_addChoice_67 : decode cX5_addChoice 67 = .ok (.return_, 1) := by decide +kernel
theorem dX5_addChoice_68 : decode cX5_addChoice 68 = .ok (.aload_n 0, 1) := by decide +kernel
theorem dX5_addChoice_69 : decode cX5_addChoice 69 = .ok (.invokevirtual 125, 3) := by decide +kernel
theorem dX5_addChoice_72 : decode cX5_addChoice 72 = .ok (.istore 5, 2) := by decide +kernel
theorem dX5_addChoice_74 : decode cX5_addChoice 74 = .ok (.iload 5, 2) := by decide +kernel
theorem dX5_addChoice_76 : decode cX5_addChoice 76 = .ok (.aload_n 0, 1) := by decide +kernel
theorem dX5_addChoice_77 : decode cX5_addChoice 77 = .ok (.getfield 39, 3) := by decide +kernel
theorem dX5_addChoice_80 : decode cX5_addChoice 80 = .ok (.if_icmp .ne 18, 3) := by decide +kernel
theorem dX5_addChoice_83 : decode cX5_addChoice 83 = .ok (.aload_n 0, 1) := by decide +kernel
theorem dX5_addChoice_84 : decode cX5_addChoice 84 = .ok (.invokevirtual 60, 3) := by decide +kernel
theorem dX5_addChoice_87 : decode cX5_addChoice 87 = .ok (.ifCond .ne 11, 3) := by decide +kernel
theorem dX5_addChoice_90 : decode cX5_addChoice 90 = .ok (.aload_n 0, 1) := by decide +kernel
theorem dX5_addChoice_91 : decode cX5_addChoice 91 = .ok (.bipush 8, 2) := by decide +kernel
theorem dX5_addChoice_93 : decode cX5_addChoice 93 = .ok (.iload_n 2, 1) := by decide +kernel
theorem dX5_addChoice_94 : decode cX5_addChoice 94 = .ok (.invokevirtual 122, 3) := by decide +kernel
theorem dX5_addChoice_97 : decode cX5_addChoice 97 = .ok (.return_, 1) := by decide +kernel
theorem dX5_addChoice_98 : decode cX5_addChoice 98 = .ok (.aload_n 0, 1) := by decide +kernel
theorem dX5_addChoice_99 : decode cX5_addChoice 99 = .ok (.getfield 21, 3) := by decide +kernel
theorem dX5_addChoice_102 : decode cX5_addChoice 102 = .ok (.iload_n 3, 1) := by decide +kernel
theorem dX5_addChoice_103 : decode cX5_addChoice 103 = .ok (.iconst 4, 1) := by decide +kernel
theorem dX5_addChoice_104 : decode cX5_addChoice 104 = .ok (.imul, 1) := by decide +kernel
theorem dX5_addChoice_105 : decode cX5_addChoice 105 = .ok (.iload 4, 2) := by decide +kernel
theorem dX5_addChoice_107 : decode cX5_addChoice 107 = .ok (.iadd, 1) := by decide +kernel
theorem dX5_addChoice_108 : decode cX5_addChoice 108 = .ok (.iload 5, 2) := by decide +kernel
theorem dX5_addChoice_110 : decode cX5_addChoice 110 = .ok (.iastore, 1) := by decide +kernel
theorem dX5_addChoice_111 : decode cX5_addChoice 111 = .ok (.iinc 4 1, 3) := by decide +kernel
theorem dX5_addChoice_114 : decode cX5_addChoice 114 = .ok (.goto (-82), 3) := by decide +kernel
theorem dX5_addChoice_117 : decode cX5_addChoice 117 = .ok (.return_, 1) := by decide +kernel
theorem dX5_reckonNext_0 : decode cX5_reckonNext 0 = .ok (.iload_n 1, 1) := by decide +kernel
theorem dX5_reckonNext_1 : decode cX5_reckonNext 1 = .ok (.bipush 6, 2) := by decide +kernel
theorem dX5_reckonNext_3 : decode cX5_reckonNext 3 = .ok (.imul, 1) := by decide +kernel
theorem dX5_reckonNext_4 : decode cX5_reckonNext 4 = .ok (.istore_n 3, 1) := by decide +kernel
theorem dX5_reckonNext_5 : decode cX5_reckonNext 5 = .ok (.iconst 0, 1) := by decide +kernel
theorem dX5_reckonNext_6 : decode cX5_reckonNext 6 = .ok (.istore 4, 2) := by decide +kernel
theorem dX5_reckonNext_8 : decode cX5_reckonNext 8 = .ok (.iload 4, 2) := by decide +kernel
theorem dX5_reckonNext_10 : decode cX5_reckonNext 10 = .ok (.aload_n 0, 1) := by decide +kernel
theorem dX5_reckonNext_11 : decode cX5_reckonNext 11 = .ok (.getfield 31, 3) := by decide +kernel
theorem dX5_reckonNext_14 : decode cX5_reckonNext 14 = .ok (.getfield 88, 3) := by decide +kernel
theorem dX5_reckonNext_17 : decode cX5_reckonNext 17 = .ok (.if_icmp .ge 105, 3) := by decide +kernel
theorem dX5_reckonNext_20 : decode cX5_reckonNext 20 = .ok (.aload_n 0, 1) := by decide +kernel
theorem dX5_reckonNext_21 : decode cX5_reckonNext 21 = .ok (.getfield 31, 3) := by decide +kernel
theorem dX5_reckonNext_24 : decode cX5_reckonNext 24 = .ok (.getfield 129, 3) := by decide +kernel
theorem dX5_reckonNext_27 : decode cX5_reckonNext 27 = .ok (.iload_n 2, 1) := by decide +kernel
theorem dX5_reckonNext_28 : decode cX5_reckonNext 28 = .ok (.bipush 6, 2) := by decide +kernel
theorem dX5_reckonNext_30 : decode cX5_reckonNext 30 = .ok (.imul, 1) := by decide +kernel
theorem dX5_reckonNext_31 : decode cX5_reckonNext 31 = .ok (.iload 4, 2) := by decide +kernel
theorem dX5_reckonNext_33 : decode cX5_reckonNext 33 = .ok (.iadd, 1) := by decide +kernel
theorem dX5_reckonNext_34 : decode cX5_reckonNext 34 = .ok (.iaload, 1) := by decide +kernel
theorem dX5_reckonNext_35 : decode cX5_reckonNext 35 = .ok (.istore 5, 2) := by decide +kernel
theorem dX5_reckonNext_37 : decode cX5_reckonNext 37 = .ok (.aload_n 0, 1) := by decide +kernel
theorem dX5_reckonNext_38 : decode cX5_reckonNext 38 = .ok (.getfield 9, 3) := by decide +kernel
theorem dX5_reckonNext_41 : decode cX5_reckonNext 41 = .ok (.iload_n 3, 1) := by decide +kernel
theorem dX5_reckonNext_42 : decode cX5_reckonNext 42 = .ok (.iload 4, 2) := by decide +kernel
theorem dX5_reckonNext_44 : decode cX5_reckonNext 44 = .ok (.iadd, 1) := by decide +kernel
theorem dX5_reckonNext_45 : decode cX5_reckonNext 45 = .ok (.iaload, 1) := by decide +kernel
theorem dX5_reckonNext_46 : decode cX5_reckonNext 46 = .ok (.i2l, 1) := by decide +kernel
theorem dX5_reckonNext_47 : decode cX5_reckonNext 47 = .ok (.lstore 6, 2) := by decide +kernel
theorem dX5_reckonNext_49 : decode cX5_reckonNext 49 = .ok (.iload 5, 2) := by decide +kernel
theorem dX5_reckonNext_51 : decode cX5_reckonNext 51 = .ok (.ifCond .lt 19, 3) := by decide +kernel
theorem dX5_reckonNext_54 : decode cX5_reckonNext 54 = .ok (.aload_n 0, 1) := by decide +kernel
theorem dX5_reckonNext_55 : decode cX5_reckonNext 55 = .ok (.getfield 35, 3) := by decide +kernel
theorem dX5_reckonNext_58 : decode cX5_reckonNext 58 = .ok (.iload 5, 2) := by decide +kernel
theorem dX5_reckonNext_60 : decode cX5_reckonNext 60 = .ok (.aload_n 0, 1) := by decide +kernel
theorem dX5_reckonNext_61 : decode cX5_reckonNext 61 = .ok (.getfield 9, 3) := by decide +kernel
theorem dX5_reckonNext_64 : decode cX5_reckonNext 64 = .ok (.iload_n 3, 1) := by decide +kernel
theorem dX5_reckonNext_65 : decode cX5_reckonNext 65 = .ok (.invokevirtual 99, 3) := by decide +kernel
theorem dX5_reckonNext_68 : decode cX5_reckonNext 68 = .ok (.lstore 6, 2) := by decide +kernel
theorem dX5_reckonNext_70 : decode cX5_reckonNext 70 = .ok (.lload 6, 2) := by decide +kernel
theorem dX5_reckonNext_72 : decode cX5_reckonNext 72 = .ok (.aload_n 0, 1) := by decide +kernel
theorem dX5_reckonNext_73 : decode cX5_reckonNext 73 = .ok (.getfield 31, 3) := by decide +kernel
theorem dX5_reckonNext_76 : decode cX5_reckonNext 76 = .ok (.getfield 132, 3) := by decide +kernel
theorem dX5_reckonNext_79 : decode cX5_reckonNext 79 = .ok (.iload 4, 2) := by decide +kernel
theorem dX5_reckonNext_81 : decode cX5_reckonNext 81 = .ok (.iaload, 1) := by decide +kernel
theorem dX5_reckonNext_82 : decode cX5_reckonNext 82 = .ok (.i2l, 1) := by decide +kernel
theorem dX5_reckonNext_83 : decode cX5_reckonNext 83 = .ok (.lcmp, 1) := by decide +kernel
theorem dX5_reckonNext_84 : decode cX5_reckonNext 84 = .ok (.ifCond .lt 20, 3) := by decide +kernel
theorem dX5_reckonNext_87 : decode cX5_reckonNext 87 = .ok (.lload 6, 2) := by decide +kernel
theorem dX5_reckonNext_89 : decode cX5_reckonNext 89 = .ok (.aload_n 0, 1) := by decide +kernel
theorem dX5_reckonNext_90 : decode cX5_reckonNext 90 = .ok (.getfield 31, 3) := by decide +kernel
theorem dX5_reckonNext_93 : decode cX5_reckonNext 93 = .ok (.getfield 135, 3) := by decide +kernel
theorem dX5_reckonNext_96 : decode cX5_reckonNext 96 = .ok (.iload 4, 2) := by decide +kernel
theorem dX5_reckonNext_98 : decode cX5_reckonNext 98 = .ok (.iaload, 1) := by decide +kernel
theorem dX5_reckonNext_99 : decode cX5_reckonNext 99 = .ok (.i2l, 1) := by decide +kernel
theorem dX5_reckonNext_100 : decode cX5_reckonNext 100 = .ok (.lcmp, 1) := by decide +kernel
theorem dX5_reckonNext_101 : decode cX5_reckonNext 101 = .ok (.ifCond .le 5, 3) := by decide +kernel
theorem dX5_reckonNext_104 : decode cX5_reckonNext 104 = .ok (.iconst 0, 1) := by decide +kernel
theorem dX5_reckonNext_105 : decode cX5_reckonNext 105 = .ok (.ireturn, 1) := by decide +kernel
theorem dX5_reckonNext_106 : decode cX5_reckonNext 106 = .ok (.aload_n 0, 1) := by decide +kernel
theorem dX5_reckonNext_107 : decode cX5_reckonNext 107 = .ok (.getfield 28, 3) := by decide +kernel
theorem dX5_reckonNext_110 : decode cX5_reckonNext 110 = .ok (.iload 4, 2) := by decide +kernel
theorem dX5_reckonNext_112 : decode cX5_reckonNext 112 = .ok (.lload 6, 2) := by decide +kernel
theorem dX5_reckonNext_114 : decode cX5_reckonNext 114 = .ok (.l2i, 1) := by decide +kernel
theorem dX5_reckonNext_115 : decode cX5_reckonNext 115 = .ok (.iastore, 1) := by decide +kernel
theorem dX5_reckonNext_116 : decode cX5_reckonNext 116 = .ok (.iinc 4 1, 3) := by decide +kernel
theorem dX5_reckonNext_119 : decode cX5_reckonNext 119 = .ok (.goto (-111), 3) := by decide +kernel
theorem dX5_reckonNext_122 : decode cX5_reckonNext 122 = .ok (.iconst 1, 1) := by decide +kernel
theorem dX5_reckonNext_123 : decode cX5_reckonNext 123 = .ok (.ireturn, 1) := by decide +kernel
theorem dX5_fail_0 : decode cX5_fail 0 = .ok (.aload_n 0, 1) := by decide +kernel
theorem dX5_fail_1 : decode cX5_fail 1 = .ok (.iload_n 1, 1) := by decide +kernel
theorem dX5_fail_2 : decode cX5_fail 2 = .ok (.putfield 43, 3) := by decide +kernel
theorem dX5_fail_5 : decode cX5_fail 5 = .ok (.aload_n 0, 1) := by decide +kernel
theorem dX5_fail_6 : decode cX5_fail 6 = .ok (.aload_n 0, 1) := by decide +kernel
theorem dX5_fail_7 : decode cX5_fail 7 = .ok (.getfield 31, 3) := by decide +kernel
theorem dX5_fail_10 : decode cX5_fail 10 = .ok (.getfield 138, 3) := by decide +kernel
theorem dX5_fail_13 : decode cX5_fail 13 = .ok (.iload_n 2, 1) := by decide +kernel
theorem dX5_fail_14 : decode cX5_fail 14 = .ok (.iaload, 1) := by decide +kernel
theorem dX5_fail_15 : decode cX5_fail 15 = .ok (.putfield 46, 3) := by decide +kernel
theorem dX5_fail_18 : decode cX5_fail 18 = .ok (.return_, 1) := by decide +kernel
theorem dX5_addNext_0 : decode cX5_addNext 0 = .ok (.aload_n 0, 1) := by decide +kernel
theorem dX5_addNext_1 : decode cX5_addNext 1 = .ok (.getfield 39, 3) := by decide +kernel
theorem dX5_addNext_4 : decode cX5_addNext 4 = .ok (.bipush 100, 2) := by decide +kernel
theorem dX5_addNext_6 : decode cX5_addNext 6 = .ok (.if_icmp .lt 5, 3) := by decide +kernel
theorem dX5_addNext_9 : decode cX5_addNext 9 = .ok (.iconst 0, 1) := by decide +kernel
theorem dX5_addNext_10 : decode cX5_addNext 10 = .ok (.ireturn, 1) := by decide +kernel
theorem dX5_addNext_11 : decode cX5_addNext 11 = .ok (.aload_n 0, 1) := by decide +kernel
theorem dX5_addNext_12 : decode cX5_addNext 12 = .ok (.getfield 28, 3) := by decide +kernel
theorem dX5_addNext_15 : decode cX5_addNext 15 = .ok (.iconst 0, 1) := by decide +kernel
theorem dX5_addNext_16 : decode cX5_addNext 16 = .ok (.aload_n 0, 1) := by decide +kernel
theorem dX5_addNext_17 : decode cX5_addNext 17 = .ok (.getfield 9, 3) := by decide +kernel
theorem dX5_addNext_20 : decode cX5_addNext 20 = .ok (.aload_n 0, 1) := by decide +kernel
theorem dX5_addNext_21 : decode cX5_addNext 21 = .ok (.getfield 39, 3) := by decide +kernel
theorem dX5_addNext_24 : decode cX5_addNext 24 = .ok (.bipush 6, 2) := by decide +kernel
theorem dX5_addNext_26 : decode cX5_addNext 26 = .ok (.imul, 1) := by decide +kernel
theorem dX5_addNext_27 : decode cX5_addNext 27 = .ok (.bipush 6, 2) := by decide +kernel
theorem dX5_addNext_29 : decode cX5_addNext 29 = .ok (.invokestatic 54, 3) := by decide +kernel
theorem dX5_addNext_32 : decode cX5_addNext 32 = .ok (.aload_n 0, 1) := by decide +kernel
theorem dX5_addNext_33 : decode cX5_addNext 33 = .ok (.dup, 1) := by decide +kernel
theorem dX5_addNext_34 : decode cX5_addNext 34 = .ok (.getfield 39, 3) := by decide +kernel
theorem dX5_addNext_37 : decode cX5_addNext 37 = .ok (.iconst 1, 1) := by decide +kernel
theorem dX5_addNext_38 : decode cX5_addNext 38 = .ok (.iadd, 1) := by decide +kernel
theorem dX5_addNext_39 : decode cX5_addNext 39 = .ok (.putfield 39, 3) := by decide +kernel
theorem dX5_addNext_42 : decode cX5_addNext 42 = .ok (.iconst 1, 1) := by decide +kernel
theorem dX5_addNext_43 : decode cX5_addNext 43 = .ok (.ireturn, 1) := by decide +kernel
theorem dX5_placeOfNext_0 : decode cX5_placeOfNext 0 = .ok (.iconst 0, 1) := by decide +kernel
theorem dX5_placeOfNext_1 : decode cX5_placeOfNext 1 = .ok (.istore_n 1, 1) := by decide +kernel
theorem dX5_placeOfNext_2 : decode cX5_placeOfNext 2 = .ok (.iload_n 1, 1) := by decide +kernel
theorem dX5_placeOfNext_3 : decode cX5_placeOfNext 3 = .ok (.aload_n 0, 1) := by decide +kernel
theorem dX5_placeOfNext_4 : decode cX5_placeOfNext 4 = .ok (.getfield 39, 3) := by decide +kernel
theorem dX5_placeOfNext_7 : decode cX5_placeOfNext 7 = .ok (.if_icmp .ge 66, 3) := by decide +kernel
theorem dX5_placeOfNext_10 : decode cX5_placeOfNext 10 = .ok (.iconst 1, 1) := by decide +kernel
theorem dX5_placeOfNext_11 : decode cX5_placeOfNext 11 = .ok (.istore_n 2, 1) := by decide +kernel
theorem dX5_placeOfNext_12 : decode cX5_placeOfNext 12 = .ok (.iconst 0, 1) := by decide +kernel
theorem dX5_placeOfNext_13 : decode cX5_placeOfNext 13 = .ok (.istore_n 3, 1) := by decide +kernel
theorem dX5_placeOfNext_14 : decode cX5_placeOfNext 14 = .ok (.iload_n 3, 1) := by decide +kernel
theorem dX5_placeOfNext_15 : decode cX5_placeOfNext 15 = .ok (.aload_n 0, 1) := by decide +kernel
theorem dX5_placeOfNext_16 : decode cX5_placeOfNext 16 = .ok (.getfield 31, 3) := by decide +kernel
theorem dX5_placeOfNext_19 : decode cX5_placeOfNext 19 = .ok (.getfield 88, 3) := by decide +kernel
theorem dX5_placeOfNext_22 : decode cX5_placeOfNext 22 = .ok (.if_icmp .ge 39, 3) := by decide +kernel
theorem dX5_placeOfNext_25 : decode cX5_placeOfNext 25 = .ok (.iload_n 2, 1) := by decide +kernel
theorem dX5_placeOfNext_26 : decode cX5_placeOfNext 26 = .ok (.ifCond .eq 35, 3) := by decide +kernel
theorem dX5_placeOfNext_29 : decode cX5_placeOfNext 29 = .ok (.aload_n 0, 1) := by decide +kernel
theorem dX5_placeOfNext_30 : decode cX5_placeOfNext 30 = .ok (.getfield 9, 3) := by decide +kernel
theorem dX5_placeOfNext_33 : decode cX5_placeOfNext 33 = .ok (.iload_n 1, 1) := by decide +kernel
theorem dX5_placeOfNext_34 : decode cX5_placeOfNext 34 = .ok (.bipush 6, 2) := by decide +kernel
theorem dX5_placeOfNext_36 : decode cX5_placeOfNext 36 = .ok (.imul, 1) := by decide +kernel
theorem dX5_placeOfNext_37 : decode cX5_placeOfNext 37 = .ok (.iload_n 3, 1) := by decide +kernel
theorem dX5_placeOfNext_38 : decode cX5_placeOfNext 38 = .ok (.iadd, 1) := by decide +kernel
theorem dX5_placeOfNext_39 : decode cX5_placeOfNext 39 = .ok (.iaload, 1) := by decide +kernel
theorem dX5_placeOfNext_40 : decode cX5_placeOfNext 40 = .ok (.aload_n 0, 1) := by decide +kernel
theorem dX5_placeOfNext_41 : decode cX5_placeOfNext 41 = .ok (.getfield 28, 3) := by decide +kernel
theorem dX5_placeOfNext_44 : decode cX5_placeOfNext 44 = .ok (.iload_n 3, 1) := by decide +kernel
theorem dX5_placeOfNext_45 : decode cX5_placeOfNext 45 = .ok (.iaload, 1) := by decide +kernel
theorem dX5_placeOfNext_46 : decode cX5_placeOfNext 46 = .ok (.if_icmp .ne 7, 3) := by decide +kernel
theorem dX5_placeOfNext_49 : decode cX5_placeOfNext 49 = .ok (.iconst 1, 1) := by decide +kernel
theorem dX5_placeOfNext_50 : decode cX5_placeOfNext 50 = .ok (.goto 4, 3) := by decide +kernel
theorem dX5_placeOfNext_53 : decode cX5_placeOfNext 53 = .ok (.iconst 0, 1) := by decide +kernel
theorem dX5_placeOfNext_54 : decode cX5_placeOfNext 54 = .ok (.istore_n 2, 1) := by decide +kernel
theorem dX5_placeOfNext_55 : decode cX5_placeOfNext 55 = .ok (.iinc 3 1, 3) := by decide +kernel
theorem dX5_placeOfNext_58 : decode cX5_placeOfNext 58 = .ok (.goto (-44), 3) := by decide +kernel
theorem dX5_placeOfNext_61 : decode cX5_placeOfNext 61 = .ok (.iload_n 2, 1) := by decide +kernel
theorem dX5_placeOfNext_62 : decode cX5_placeOfNext 62 = .ok (.ifCond .eq 5, 3) := by decide +kernel
theorem dX5_placeOfNext_65 : decode cX5_placeOfNext 65 = .ok (.iload_n 1, 1) := by decide +kernel
theorem dX5_placeOfNext_66 : decode cX5_placeOfNext 66 = .ok (.ireturn, 1) := by decide +kernel
theorem dX5_placeOfNext_67 : decode cX5_placeOfNext 67 = .ok (.iinc 1 1, 3) := by decide +kernel
theorem dX5_placeOfNext_70 : decode cX5_placeOfNext 70 = .ok (.goto (-68), 3) := by decide +kernel
theorem dX5_placeOfNext_73 : decode cX5_placeOfNext 73 = .ok (.aload_n 0, 1) := by decide +kernel
theorem dX5_placeOfNext_74 : decode cX5_placeOfNext 74 = .ok (.getfield 39, 3) := by decide +kernel
theorem dX5_placeOfNext_77 : decode cX5_placeOfNext 77 = .ok (.ireturn, 1) := by decide +kernel
theorem dX6_init_0 : decode cX6_init 0 = .ok (.aload_n 0, 1) := by decide +kernel
theorem dX6_init_1 : decode cX6_init 1 = .ok (.invokespecial 3, 3) := by decide +kernel
theorem dX6_init_4 : decode cX6_init 4 = .ok (.aload_n 0, 1) := by decide +kernel
theorem dX6_init_5 : decode cX6_init 5 = .ok (.iconst 3, 1) := by decide +kernel
theorem dX6_init_6 : decode cX6_init 6 = .ok (.newarray .int, 2) := by decide +kernel
theorem dX6_init_8 : decode cX6_init 8 = .ok (.putfield 9, 3) := by decide +kernel
theorem dX6_init_11 : decode cX6_init 11 = .ok (.aload_n 0, 1) := by decide +kernel
theorem dX6_init_12 : decode cX6_init 12 = .ok (.sipush 3000, 3) := by decide +kernel
theorem dX6_init_15 : decode cX6_init 15 = .ok (.newarray .int, 2) := by decide +kernel
theorem dX6_init_17 : decode cX6_init 17 = .ok (.putfield 15, 3) := by decide +kernel
theorem dX6_init_20 : decode cX6_init 20 = .ok (.aload_n 0, 1) := by decide +kernel
theorem dX6_init_21 : decode cX6_init 21 = .ok (.sipush 3100, 3) := by decide +kernel
theorem dX6_init_24 : decode cX6_init 24 = .ok (.newarray .long, 2) := by decide +kernel
theorem dX6_init_26 : decode cX6_init 26 = .ok (.putfield 18, 3) := by decide +kernel
theorem dX6_init_29 : decode cX6_init 29 = .ok (.aload_n 0, 1) := by decide +kernel
theorem dX6_init_30 : decode cX6_init 30 = .ok (.iconst 3, 1) := by decide +kernel
theorem dX6_init_31 : decode cX6_init 31 = .ok (.newarray .long, 2) := by decide +kernel
theorem dX6_init_33 : decode cX6_init 33 = .ok (.putfield 22, 3) := by decide +kernel
theorem dX6_init_36 : decode cX6_init 36 = .ok (.return_, 1) := by decide +kernel
theorem dX6_takenIn_0 : decode cX6_takenIn 0 = .ok (.aload_n 0, 1) := by decide +kernel
theorem dX6_takenIn_1 : decode cX6_takenIn 1 = .ok (.getfield 15, 3) := by decide +kernel
theorem dX6_takenIn_4 : decode cX6_takenIn 4 = .ok (.iload_n 2, 1) := by decide +kernel
theorem dX6_takenIn_5 : decode cX6_takenIn 5 = .ok (.iconst 1, 1) := by decide +kernel
theorem dX6_takenIn_6 : decode cX6_takenIn 6 = .ok (.isub, 1) := by decide +kernel
theorem dX6_takenIn_7 : decode cX6_takenIn 7 = .ok (.bipush 100, 2) := by decide +kernel
theorem dX6_takenIn_9 : decode cX6_takenIn 9 = .ok (.imul, 1) := by decide +kernel
theorem dX6_takenIn_10 : decode cX6_takenIn 10 = .ok (.iload_n 1, 1) := by decide +kernel
theorem dX6_takenIn_11 : decode cX6_takenIn 11 = .ok (.iadd, 1) := by decide +kernel
theorem dX6_takenIn_12 : decode cX6_takenIn 12 = .ok (.invokestatic 25, 3) := by decide +kernel
theorem dX6_takenIn_15 : decode cX6_takenIn 15 = .ok (.ireturn, 1) := by decide +kernel
theorem dX7_init_0 : decode cX7_init 0 = .ok (.aload_n 0, 1) := by decide +kernel
theorem dX7_init_1 : decode cX7_init 1 = .ok (.invokespecial 3, 3) := by decide +kernel
theorem dX7_init_4 : decode cX7_init 4 = .ok (.aload_n 0, 1) := by decide +kernel
theorem dX7_init_5 : decode cX7_init 5 = .ok (.sipush 1501, 3) := by decide +kernel
theorem dX7_init_8 : decode cX7_init 8 = .ok (.newarray .int, 2) := by decide +kernel
theorem dX7_init_10 : decode cX7_init 10 = .ok (.putfield 9, 3) := by decide +kernel
theorem dX7_init_13 : decode cX7_init 13 = .ok (.aload_n 0, 1) := by decide +kernel
theorem dX7_init_14 : decode cX7_init 14 = .ok (.sipush 1501, 3) := by decide +kernel
theorem dX7_init_17 : decode cX7_init 17 = .ok (.newarray .int, 2) := by decide +kernel
theorem dX7_init_19 : decode cX7_init 19 = .ok (.putfield 15, 3) := by decide +kernel
theorem dX7_init_22 : decode cX7_init 22 = .ok (.aload_n 0, 1) := by decide +kernel
theorem dX7_init_23 : decode cX7_init 23 = .ok (.sipush 1501, 3) := by decide +kernel
theorem dX7_init_26 : decode cX7_init 26 = .ok (.newarray .long, 2) := by decide +kernel
theorem dX7_init_28 : decode cX7_init 28 = .ok (.putfield 18, 3) := by decide +kernel
theorem dX7_init_31 : decode cX7_init 31 = .ok (.return_, 1) := by decide +kernel
theorem dX7_read_0 : decode cX7_read 0 = .ok (.aload_n 0, 1) := by decide +kernel
theorem dX7_read_1 : decode cX7_read 1 = .ok (.iconst 0, 1) := by decide +kernel
theorem dX7_read_2 : decode cX7_read 2 = .ok (.putfield 22, 3) := by decide +kernel
theorem dX7_read_5 : decode cX7_read 5 = .ok (.iconst 0, 1) := by decide +kernel
theorem dX7_read_6 : decode cX7_read 6 = .ok (.istore_n 3, 1) := by decide +kernel
theorem dX7_read_7 : decode cX7_read 7 = .ok (.iconst 0, 1) := by decide +kernel
theorem dX7_read_8 : decode cX7_read 8 = .ok (.istore 4, 2) := by decide +kernel
theorem dX7_read_10 : decode cX7_read 10 = .ok (.iload 4, 2) := by decide +kernel
theorem dX7_read_12 : decode cX7_read 12 = .ok (.sipush 1500, 3) := by decide +kernel
theorem dX7_read_15 : decode cX7_read 15 = .ok (.if_icmp .ge 22, 3) := by decide +kernel
theorem dX7_read_18 : decode cX7_read 18 = .ok (.iload_n 3, 1) := by decide +kernel
theorem dX7_read_19 : decode cX7_read 19 = .ok (.iload_n 2, 1) := by decide +kernel
theorem dX7_read_20 : decode cX7_read 20 = .ok (.if_icmp .ge 17, 3) := by decide +kernel
theorem dX7_read_23 : decode cX7_read 23 = .ok (.aload_n 0, 1) := by decide +kernel
theorem dX7_read_24 : decode cX7_read 24 = .ok (.aload_n 1, 1) := by decide +kernel
theorem dX7_read_25 : decode cX7_read 25 = .ok (.iload_n 2, 1) := by decide +kernel
theorem dX7_read_26 : decode cX7_read 26 = .ok (.iload_n 3, 1) := by decide +kernel
theorem dX7_read_27 : decode cX7_read 27 = .ok (.invokevirtual 26, 3) := by decide +kernel
theorem dX7_read_30 : decode cX7_read 30 = .ok (.istore_n 3, 1) := by decide +kernel
theorem dX7_read_31 : decode cX7_read 31 = .ok (.iinc 4 1, 3) := by decide +kernel
theorem dX7_read_34 : decode cX7_read 34 = .ok (.goto (-24), 3) := by decide +kernel
theorem dX7_read_37 : decode cX7_read 37 = .ok (.aload_n 0, 1) := by decide +kernel
theorem dX7_read_38 : decode cX7_read 38 = .ok (.sipush 278, 3) := by decide +kernel
theorem dX7_read_41 : decode cX7_read 41 = .ok (.iload_n 2, 1) := by decide +kernel
theorem dX7_read_42 : decode cX7_read 42 = .ok (.lconst 0, 1) := by decide +kernel
theorem dX7_read_43 : decode cX7_read 43 = .ok (.invokevirtual 30, 3) := by decide +kernel
theorem dX7_read_46 : decode cX7_read 46 = .ok (.return_, 1) := by decide +kernel
theorem dX7_kindOf_0 : decode cX7_kindOf 0 = .ok (.iload_n 1, 1) := by decide +kernel
theorem dX7_kindOf_1 : decode cX7_kindOf 1 = .ok (.ifCond .lt 20, 3) := by decide +kernel
theorem dX7_kindOf_4 : decode cX7_kindOf 4 = .ok (.iload_n 1, 1) := by decide +kernel
theorem dX7_kindOf_5 : decode cX7_kindOf 5 = .ok (.aload_n 0, 1) := by decide +kernel
theorem dX7_kindOf_6 : decode cX7_kindOf 6 = .ok (.getfield 22, 3) := by decide +kernel
theorem dX7_kindOf_9 : decode cX7_kindOf 9 = .ok (.if_icmp .ge 12, 3) := by decide +kernel
theorem dX7_kindOf_12 : decode cX7_kindOf 12 = .ok (.aload_n 0, 1) := by decide +kernel
theorem dX7_kindOf_13 : decode cX7_kindOf 13 = .ok (.getfield 9, 3) := by decide +kernel
theorem dX7_kindOf_16 : decode cX7_kindOf 16 = .ok (.iload_n 1, 1) := by decide +kernel
theorem dX7_kindOf_17 : decode cX7_kindOf 17 = .ok (.iaload, 1) := by decide +kernel
theorem dX7_kindOf_18 : decode cX7_kindOf 18 = .ok (.goto 6, 3) := by decide +kernel
theorem dX7_kindOf_21 : decode cX7_kindOf 21 = .ok (.sipush 279, 3) := by decide +kernel
theorem dX7_kindOf_24 : decode cX7_kindOf 24 = .ok (.ireturn, 1) := by decide +kernel
theorem dX7_contentOf_0 : decode cX7_contentOf 0 = .ok (.iload_n 1, 1) := by decide +kernel
theorem dX7_contentOf_1 : decode cX7_contentOf 1 = .ok (.ifCond .lt 20, 3) := by decide +kernel
theorem dX7_contentOf_4 : decode cX7_contentOf 4 = .ok (.iload_n 1, 1) := by decide +kernel
theorem dX7_contentOf_5 : decode cX7_contentOf 5 = .ok (.aload_n 0, 1) := by decide +kernel
theorem dX7_contentOf_6 : decode cX7_contentOf 6 = .ok (.getfield 22, 3) := by decide +kernel
theorem dX7_contentOf_9 : decode cX7_contentOf 9 = .ok (.if_icmp .ge 12, 3) := by decide +kernel
theorem dX7_contentOf_12 : decode cX7_contentOf 12 = .ok (.aload_n 0, 1) := by decide +kernel
theorem dX7_contentOf_13 : decode cX7_contentOf 13 = .ok (.getfield 18, 3) := by decide +kernel
theorem dX7_contentOf_16 : decode cX7_contentOf 16 = .ok (.iload_n 1, 1) := by decide +kernel
theorem dX7_contentOf_17 : decode cX7_contentOf 17 = .ok (.laload, 1) := by decide +kernel
theorem dX7_contentOf_18 : decode cX7_contentOf 18 = .ok (.goto 4, 3) := by decide +kernel
theorem dX7_contentOf_21 : decode cX7_contentOf 21 = .ok (.lconst 0, 1) := by decide +kernel
theorem dX7_contentOf_22 : decode cX7_contentOf 22 = .ok (.lreturn, 1) := by decide +kernel
theorem dX7_readOne_0 : decode cX7_readOne 0 = .ok (.aload_n 1, 1) := by decide +kernel
theorem dX7_readOne_1 : decode cX7_readOne 1 = .ok (.iload_n 3, 1) := by decide +kernel
theorem dX7_readOne_2 : decode cX7_readOne 2 = .ok (.iaload, 1) := by decide +kernel
theorem dX7_readOne_3 : decode cX7_readOne 3 = .ok (.istore 4, 2) := by decide +kernel
theorem dX7_readOne_5 : decode cX7_readOne 5 = .ok (.iload 4, 2) := by decide +kernel
theorem dX7_readOne_7 : decode cX7_readOne 7 = .ok (.bipush 32, 2) := by decide +kernel
theorem dX7_readOne_9 : decode cX7_readOne 9 = .ok (.if_icmp .eq 10, 3) := by decide +kernel
theorem dX7_readOne_12 : decode cX7_readOne 12 = .ok (.iload 4, 2) := by decide +kernel
theorem dX7_readOne_14 : decode cX7_readOne 14 = .ok (.bipush 10, 2) := by decide +kernel
theorem dX7_readOne_16 : decode cX7_readOne 16 = .ok (.if_icmp .ne 7, 3) := by decide +kernel
theorem dX7_readOne_19 : decode cX7_readOne 19 = .ok (.iload_n 3, 1) := by decide +kernel
theorem dX7_readOne_20 : decode cX7_readOne 20 = .ok (.iconst 1, 1) := by decide +kernel
theorem dX7_readOne_21 : decode cX7_readOne 21 = .ok (.iadd, 1) := by decide +kernel
theorem dX7_readOne_22 : decode cX7_readOne 22 = .ok (.ireturn, 1) := by decide +kernel
theorem dX7_readOne_23 : decode cX7_readOne 23 = .ok (.iload 4, 2) := by decide +kernel
theorem dX7_readOne_25 : decode cX7_readOne 25 = .ok (.invokestatic 34, 3) := by decide +kernel
theorem dX7_readOne_28 : decode cX7_readOne 28 = .ok (.ifCond .eq 11, 3) := by decide +kernel
theorem dX7_readOne_31 : decode cX7_readOne 31 = .ok (.aload_n 0, 1) := by decide +kernel
theorem dX7_readOne_32 : decode cX7_readOne 32 = .ok (.aload_n 1, 1) := by decide +kernel
theorem dX7_readOne_33 : decode cX7_readOne 33 = .ok (.iload_n 2, 1) := by decide +kernel
theorem dX7_readOne_34 : decode cX7_readOne 34 = .ok (.iload_n 3, 1) := by decide +kernel
theorem dX7_readOne_35 : decode cX7_readOne 35 = .ok (.invokevirtual 38, 3) := by decide +kernel
theorem dX7_readOne_38 : decode cX7_readOne 38 = .ok (.ireturn, 1) := by decide +kernel
theorem dX7_readOne_39 : decode cX7_readOne 39 = .ok (.iload 4, 2) := by decide +kernel
theorem dX7_readOne_41 : decode cX7_readOne 41 = .ok (.invokestatic 41, 3) := by decide +kernel
theorem dX7_readOne_44 : decode cX7_readOne 44 = .ok (.ifCond .eq 11, 3) := by decide +kernel
theorem dX7_readOne_47 : decode cX7_readOne 47 = .ok (.aload_n 0, 1) := by decide +kernel
theorem dX7_readOne_48 : decode cX7_readOne 48 = .ok (.aload_n 1, 1) := by decide +kernel
theorem dX7_readOne_49 : decode cX7_readOne 49 = .ok (.iload_n 2, 1) := by decide +kernel
theorem dX7_readOne_50 : decode cX7_readOne 50 = .ok (.iload_n 3, 1) := by decide +kernel
theorem dX7_readOne_51 : decode cX7_readOne 51 = .ok (.invokevirtual 44, 3) := by decide +kernel
theorem dX7_readOne_54 : decode cX7_readOne 54 = .ok (.ireturn, 1) := by decide +kernel
theorem dX7_readOne_55 : decode cX7_readOne 55 = .ok (.aload_n 0, 1) := by decide +kernel
theorem dX7_readOne_56 : decode cX7_readOne 56 = .ok (.aload_n 1, 1) := by decide +kernel
theorem dX7_readOne_57 : decode cX7_readOne 57 = .ok (.iload_n 2, 1) := by decide +kernel
theorem dX7_readOne_58 : decode cX7_readOne 58 = .ok (.iload_n 3, 1) := by decide +kernel
theorem dX7_readOne_59 : decode cX7_readOne 59 = .ok (.invokevirtual 47, 3) := by decide +kernel
theorem dX7_readOne_62 : decode cX7_readOne 62 = .ok (.ireturn, 1) := by decide +kernel
theorem dX7_readWord_0 : decode cX7_readWord 0 = .ok (.lconst 0, 1) := by decide +kernel
theorem dX7_readWord_1 : decode cX7_readWord 1 = .ok (.lstore 4, 2) := by decide +kernel
theorem dX7_readWord_3 : decode cX7_readWord 3 = .ok (.iload_n 3, 1) := by decide +kernel
theorem dX7_readWord_4 : decode cX7_readWord 4 = .ok (.istore 6, 2) := by decide +kernel
theorem dX7_readWord_6 : decode cX7_readWord 6 = .ok (.iload 6, 2) := by decide +kernel
theorem dX7_readWord_8 : decode cX7_readWord 8 = .ok (.iload_n 2, 1) := by decide +kernel
theorem dX7_readWord_9 : decode cX7_readWord 9 = .ok (.if_icmp .ge 43, 3) := by decide +kernel
theorem dX7_readWord_12 : decode cX7_readWord 12 = .ok (.aload_n 1, 1) := by decide +kernel
theorem dX7_readWord_13 : decode cX7_readWord 13 = .ok (.iload 6, 2) := by decide +kernel
theorem dX7_readWord_15 : decode cX7_readWord 15 = .ok (.iaload, 1) := by decide +kernel
theorem dX7_readWord_16 : decode cX7_readWord 16 = .ok (.invokestatic 34, 3) := by decide +kernel
theorem dX7_readWord_19 : decode cX7_readWord 19 = .ok (.ifCond .ne 13, 3) := by decide +kernel
theorem dX7_readWord_22 : decode cX7_readWord 22 = .ok (.aload_n 1, 1) := by decide +kernel
theorem dX7_readWord_23 : decode cX7_readWord 23 = .ok (.iload 6, 2) := by decide +kernel
theorem dX7_readWord_25 : decode cX7_readWord 25 = .ok (.iaload, 1) := by decide +kernel
theorem dX7_readWord_26 : decode cX7_readWord 26 = .ok (.invokestatic 41, 3) := by decide +kernel
theorem dX7_readWord_29 : decode cX7_readWord 29 = .ok (.ifCond .eq 23, 3) := by decide +kernel
theorem dX7_readWord_32 : decode cX7_readWord 32 = .ok (.lload 4, 2) := by decide +kernel
theorem dX7_readWord_34 : decode cX7_readWord 34 = .ok (.ldc2_w 50, 3) := by decide +kernel
theorem dX7_readWord_37 : decode cX7_readWord 37 = .ok (.lmul, 1) := by decide +kernel
theorem dX7_readWord_38 : decode cX7_readWord 38 = .ok (.aload_n 1, 1) := by decide +kernel
theorem dX7_readWord_39 : decode cX7_readWord 39 = .ok (.iload 6, 2) := by decide +kernel
theorem dX7_readWord_41 : decode cX7_readWord 41 = .ok (.iaload, 1) := by decide +kernel
theorem dX7_readWord_42 : decode cX7_readWord 42 = .ok (.i2l, 1) := by decide +kernel
theorem dX7_readWord_43 : decode cX7_readWord 43 = .ok (.ladd, 1) := by decide +kernel
theorem dX7_readWord_44 : decode cX7_readWord 44 = .ok (.lstore 4, 2) := by decide +kernel
theorem dX7_readWord_46 : decode cX7_readWord 46 = .ok (.iinc 6 1, 3) := by decide +kernel
theorem dX7_readWord_49 : decode cX7_readWord 49 = .ok (.goto (-43), 3) := by decide +kernel
theorem dX7_readWord_52 : decode cX7_readWord 52 = .ok (.aload_n 0, 1) := by decide +kernel
theorem dX7_readWord_53 : decode cX7_readWord 53 = .ok (.iload 6, 2) := by decide +kernel
theorem dX7_readWord_55 : decode cX7_readWord 55 = .ok (.iload_n 3, 1) := by decide +kernel
theorem dX7_readWord_56 : decode cX7_readWord 56 = .ok (.isub, 1) := by decide +kernel
theorem dX7_readWord_57 : decode cX7_readWord 57 = .ok (.bipush 8, 2) := by decide +kernel
theorem dX7_readWord_59 : decode cX7_readWord 59 = .ok (.if_icmp .le 9, 3) := by decide +kernel
theorem dX7_readWord_62 : decode cX7_readWord 62 = .ok (.sipush 279, 3) := by decide +kernel
theorem dX7_readWord_65 : decode cX7_readWord 65 = .ok (.goto 8, 3) := by decide +kernel
theorem dX7_readWord_68 : decode cX7_readWord 68 = .ok (.lload 4, 2) := by decide +kernel
theorem dX7_readWord_70 : decode cX7_readWord 70 = .ok (.invokestatic 52, 3) := by decide +kernel
theorem dX7_readWord_73 : decode cX7_readWord 73 = .ok (.iload_n 3, 1) := by decide +kernel
theorem dX7_readWord_74 : decode cX7_readWord 74 = .ok (.lload 4, 2) := by decide +kernel
theorem dX7_readWord_76 : decode cX7_readWord 76 = .ok (.invokevirtual 30, 3) := by decide +kernel
theorem dX7_readWord_79 : decode cX7_readWord 79 = .ok (.iload 6, 2) := by decide +kernel
theorem dX7_readWord_81 : decode cX7_readWord 81 = .ok (.ireturn, 1) := by decide +kernel
theorem dX7_readNumber_0 : decode cX7_readNumber 0 = .ok (.lconst 0, 1) := by decide +kernel
theorem dX7_readNumber_1 : decode cX7_readNumber 1 = .ok (.lstore 4, 2) := by decide +kernel
theorem dX7_readNumber_3 : decode cX7_readNumber 3 = .ok (.iload_n 3, 1) := by decide +kernel
theorem dX7_readNumber_4 : decode cX7_readNumber 4 = .ok (.istore 6, 2) := by decide +kernel
theorem dX7_readNumber_6 : decode cX7_readNumber 6 = .ok (.iload 6, 2) := by decide +kernel
theorem dX7_readNumber_8 : decode cX7_readNumber 8 = .ok (.iload_n 2, 1) := by decide +kernel
theorem dX7_readNumber_9 : decode cX7_readNumber 9 = .ok (.if_icmp .ge 36, 3) := by decide +kernel
theorem dX7_readNumber_12 : decode cX7_readNumber 12 = .ok (.aload_n 1, 1) := by decide +kernel
theorem dX7_readNumber_13 : decode cX7_readNumber 13 = .ok (.iload 6, 2) := by decide +kernel
theorem dX7_readNumber_15 : decode cX7_readNumber 15 = .ok (.iaload, 1) := by decide +kernel
theorem dX7_readNumber_16 : decode cX7_readNumber 16 = .ok (.invokestatic 41, 3) := by decide +kernel
theorem dX7_readNumber_19 : decode cX7_readNumber 19 = .ok (.ifCond .eq 26, 3) := by decide +kernel
theorem dX7_readNumber_22 : decode cX7_readNumber 22 = .ok (.lload 4, 2) := by decide +kernel
theorem dX7_readNumber_24 : decode cX7_readNumber 24 = .ok (.ldc2_w 56, 3) := by decide +kernel
theorem dX7_readNumber_27 : decode cX7_readNumber 27 = .ok (.lmul, 1) := by decide +kernel
theorem dX7_readNumber_28 : decode cX7_readNumber 28 = .ok (.aload_n 1, 1) := by decide +kernel
theorem dX7_readNumber_29 : decode cX7_readNumber 29 = .ok (.iload 6, 2) := by decide +kernel
theorem dX7_readNumber_31 : decode cX7_readNumber 31 = .ok (.iaload, 1) := by decide +kernel
theorem dX7_readNumber_32 : decode cX7_readNumber 32 = .ok (.bipush 48, 2) := by decide +kernel
theorem dX7_readNumber_34 : decode cX7_readNumber 34 = .ok (.isub, 1) := by decide +kernel
theorem dX7_readNumber_35 : decode cX7_readNumber 35 = .ok (.i2l, 1) := by decide +kernel
theorem dX7_readNumber_36 : decode cX7_readNumber 36 = .ok (.ladd, 1) := by decide +kernel
theorem dX7_readNumber_37 : decode cX7_readNumber 37 = .ok (.lstore 4, 2) := by decide +kernel
theorem dX7_readNumber_39 : decode cX7_readNumber 39 = .ok (.iinc 6 1, 3) := by decide +kernel
theorem dX7_readNumber_42 : decode cX7_readNumber 42 = .ok (.goto (-36), 3) := by decide +kernel
theorem dX7_readNumber_45 : decode cX7_readNumber 45 = .ok (.aload_n 0, 1) := by decide +kernel
theorem dX7_readNumber_46 : decode cX7_readNumber 46 = .ok (.iload 6, 2) := by decide +kernel
theorem dX7_readNumber_48 : decode cX7_readNumber 48 = .ok (.iload_n 3, 1) := by decide +kernel
theorem dX7_readNumber_49 : decode cX7_readNumber 49 = .ok (.isub, 1) := by decide +kernel
theorem dX7_readNumber_50 : decode cX7_readNumber 50 = .ok (.bipush 6, 2) := by decide +kernel
theorem dX7_readNumber_52 : decode cX7_readNumber 52 = .ok (.if_icmp .le 9, 3) := by decide +kernel
theorem dX7_readNumber_55 : decode cX7_readNumber 55 = .ok (.sipush 279, 3) := by decide +kernel
theorem dX7_readNumber_58 : decode cX7_readNumber 58 = .ok (.goto 6, 3) := by decide +kernel
theorem dX7_readNumber_61 : decode cX7_readNumber 61 = .ok (.sipush 274, 3) := by decide +kernel
theorem dX7_readNumber_64 : decode cX7_readNumber 64 = .ok (.iload_n 3, 1) := by decide +kernel
theorem dX7_readNumber_65 : decode cX7_readNumber 65 = .ok (.lload 4, 2) := by decide +kernel
theorem dX7_readNumber_67 : decode cX7_readNumber 67 = .ok (.invokevirtual 30, 3) := by decide +kernel
theorem dX7_readNumber_70 : decode cX7_readNumber 70 = .ok (.iload 6, 2) := by decide +kernel
theorem dX7_readNumber_72 : decode cX7_readNumber 72 = .ok (.ireturn, 1) := by decide +kernel
theorem dX7_readSymbol_0 : decode cX7_readSymbol 0 = .ok (.aload_n 1, 1) := by decide +kernel
theorem dX7_readSymbol_1 : decode cX7_readSymbol 1 = .ok (.iload_n 3, 1) := by decide +kernel
theorem dX7_readSymbol_2 : decode cX7_readSymbol 2 = .ok (.iaload, 1) := by decide +kernel
theorem dX7_readSymbol_3 : decode cX7_readSymbol 3 = .ok (.istore 4, 2) := by decide +kernel
theorem dX7_readSymbol_5 : decode cX7_readSymbol 5 = .ok (.iload_n 3, 1) := by decide +kernel
theorem dX7_readSymbol_6 : decode cX7_readSymbol 6 = .ok (.iconst 1, 1) := by decide +kernel
theorem dX7_readSymbol_7 : decode cX7_readSymbol 7 = .ok (.iadd, 1) := by decide +kernel
theorem dX7_readSymbol_8 : decode cX7_readSymbol 8 = .ok (.iload_n 2, 1) := by decide +kernel
theorem dX7_readSymbol_9 : decode cX7_readSymbol 9 = .ok (.if_icmp .ge 11, 3) := by decide +kernel
theorem dX7_readSymbol_12 : decode cX7_readSymbol 12 = .ok (.aload_n 1, 1) := by decide +kernel
theorem dX7_readSymbol_13 : decode cX7_readSymbol 13 = .ok (.iload_n 3, 1) := by decide +kernel
theorem dX7_readSymbol_14 : decode cX7_readSymbol 14 = .ok (.iconst 1, 1) := by decide +kernel
theorem dX7_readSymbol_15 : decode cX7_readSymbol 15 = .ok (.iadd, 1) := by decide +kernel
theorem dX7_readSymbol_16 : decode cX7_readSymbol 16 = .ok (.iaload, 1) := by decide +kernel
theorem dX7_readSymbol_17 : decode cX7_readSymbol 17 = .ok (.goto 4, 3) := by decide +kernel
theorem dX7_readSymbol_20 : decode cX7_readSymbol 20 = .ok (.iconst 0, 1) := by decide +kernel
theorem dX7_readSymbol_21 : decode cX7_readSymbol 21 = .ok (.istore 5, 2) := by decide +kernel
theorem dX7_readSymbol_23 : decode cX7_readSymbol 23 = .ok (.iload 4, 2) := by decide +kernel
theorem dX7_readSymbol_25 : decode cX7_readSymbol 25 = .ok (.iload 5, 2) := by decide +kernel
theorem dX7_readSymbol_27 : decode cX7_readSymbol 27 = .ok (.invokestatic 58, 3) := by decide +kernel
theorem dX7_readSymbol_30 : decode cX7_readSymbol 30 = .ok (.istore 6, 2) := by decide +kernel
theorem dX7_readSymbol_32 : decode cX7_readSymbol 32 = .ok (.iload 6, 2) := by decide +kernel
theorem dX7_readSymbol_34 : decode cX7_readSymbol 34 = .ok (.sipush 279, 3) := by decide +kernel
theorem dX7_readSymbol_37 : decode cX7_readSymbol 37 = .ok (.if_icmp .eq 15, 3) := by decide +kernel
theorem dX7_readSymbol_40 : decode cX7_readSymbol 40 = .ok (.aload_n 0, 1) := by decide +kernel
theorem dX7_readSymbol_41 : decode cX7_readSymbol 41 = .ok (.iload 6, 2) := by decide +kernel
theorem dX7_readSymbol_43 : decode cX7_readSymbol 43 = .ok (.iload_n 3, 1) := by decide +kernel
theorem dX7_readSymbol_44 : decode cX7_readSymbol 44 = .ok (.lconst 0, 1) := by decide +kernel
theorem dX7_readSymbol_45 : decode cX7_readSymbol 45 = .ok (.invokevirtual 30, 3) := by decide +kernel
theorem dX7_readSymbol_48 : decode cX7_readSymbol 48 = .ok (.iload_n 3, 1) := by decide +kernel
theorem dX7_readSymbol_49 : decode cX7_readSymbol 49 = .ok (.iconst 2, 1) := by decide +kernel
theorem dX7_readSymbol_50 : decode cX7_readSymbol 50 = .ok (.iadd, 1) := by decide +kernel
theorem dX7_readSymbol_51 : decode cX7_readSymbol 51 = .ok (.ireturn, 1) := by decide +kernel
theorem dX7_readSymbol_52 : decode cX7_readSymbol 52 = .ok (.aload_n 0, 1) := by decide +kernel
theorem dX7_readSymbol_53 : decode cX7_readSymbol 53 = .ok (.ldc 62, 2) := by decide +kernel
theorem dX7_readSymbol_55 : decode cX7_readSymbol 55 = .ok (.iload 4, 2) := by decide +kernel
theorem dX7_readSymbol_57 : decode cX7_readSymbol 57 = .ok (.i2c, 1) := by decide +kernel
theorem dX7_readSymbol_58 : decode cX7_readSymbol 58 = .ok (.invokevirtual 64, 3) := by decide +kernel
theorem dX7_readSymbol_61 : decode cX7_readSymbol 61 = .ok (.ifCond .lt 8, 3) := by decide +kernel
theorem dX7_readSymbol_64 : decode cX7_readSymbol 64 = .ok (.iload 4, 2) := by decide +kernel
theorem dX7_readSymbol_66 : decode cX7_readSymbol 66 = .ok (.goto 6, 3) := by decide +kernel
theorem dX7_readSymbol_69 : decode cX7_readSymbol 69 = .ok (.sipush 279, 3) := by decide +kernel
theorem dX7_readSymbol_72 : decode cX7_readSymbol 72 = .ok (.iload_n 3, 1) := by decide +kernel
theorem dX7_readSymbol_73 : decode cX7_readSymbol 73 = .ok (.lconst 0, 1) := by decide +kernel
theorem dX7_readSymbol_74 : decode cX7_readSymbol 74 = .ok (.invokevirtual 30, 3) := by decide +kernel
theorem dX7_readSymbol_77 : decode cX7_readSymbol 77 = .ok (.iload_n 3, 1) := by decide +kernel
theorem dX7_readSymbol_78 : decode cX7_readSymbol 78 = .ok (.iconst 1, 1) := by decide +kernel
theorem dX7_readSymbol_79 : decode cX7_readSymbol 79 = .ok (.iadd, 1) := by decide +kernel
theorem dX7_readSymbol_80 : decode cX7_readSymbol 80 = .ok (.ireturn, 1) := by decide +kernel
theorem dX7_put_0 : decode cX7_put 0 = .ok (.aload_n 0, 1) := by decide +kernel
theorem dX7_put_1 : decode cX7_put 1 = .ok (.getfield 22, 3) := by decide +kernel
theorem dX7_put_4 : decode cX7_put 4 = .ok (.aload_n 0, 1) := by decide +kernel
theorem dX7_put_5 : decode cX7_put 5 = .ok (.getfield 9, 3) := by decide +kernel
theorem dX7_put_8 : decode cX7_put 8 = .ok (.arraylength, 1) := by decide +kernel
theorem dX7_put_9 : decode cX7_put 9 = .ok (.if_icmp .ge 43, 3) := by decide +kernel
theorem dX7_put_12 : decode cX7_put 12 = .ok (.aload_n 0, 1) := by decide +kernel
theorem dX7_put_13 : decode cX7_put 13 = .ok (.getfield 9, 3) := by decide +kernel
theorem dX7_put_16 : decode cX7_put 16 = .ok (.aload_n 0, 1) := by decide +kernel
theorem dX7_put_17 : decode cX7_put 17 = .ok (.getfield 22, 3) := by decide +kernel
theorem dX7_put_20 : decode cX7_put 20 = .ok (.iload_n 1, 1) := by decide +kernel
theorem dX7_put_21 : decode cX7_put 21 = .ok (.iastore, 1) := by decide +kernel
theorem dX7_put_22 : decode cX7_put 22 = .ok (.aload_n 0, 1) := by decide +kernel
theorem dX7_put_23 : decode cX7_put 23 = .ok (.getfield 15, 3) := by decide +kernel
theorem dX7_put_26 : decode cX7_put 26 = .ok (.aload_n 0, 1) := by decide +kernel
theorem dX7_put_27 : decode cX7_put 27 = .ok (.getfield 22, 3) := by decide +kernel
theorem dX7_put_30 : decode cX7_put 30 = .ok (.iload_n 2, 1) := by decide +kernel
theorem dX7_put_31 : decode cX7_put 31 = .ok (.iastore, 1) := by decide +kernel
theorem dX7_put_32 : decode cX7_put 32 = .ok (.aload_n 0, 1) := by decide +kernel
theorem dX7_put_33 : decode cX7_put 33 = .ok (.getfield 18, 3) := by decide +kernel
theorem dX7_put_36 : decode cX7_put 36 = .ok (.aload_n 0, 1) := by decide +kernel
theorem dX7_put_37 : decode cX7_put 37 = .ok (.getfield 22, 3) := by decide +kernel
theorem dX7_put_40 : decode cX7_put 40 = .ok (.lload_n 3, 1) := by decide +kernel
theorem dX7_put_41 : decode cX7_put 41 = .ok (.lastore, 1) := by decide +kernel
theorem dX7_put_42 : decode cX7_put 42 = .ok (.aload_n 0, 1) := by decide +kernel
theorem dX7_put_43 : decode cX7_put 43 = .ok (.dup, 1) := by decide +kernel
theorem dX7_put_44 : decode cX7_put 44 = .ok (.getfield 22, 3) := by decide +kernel
theorem dX7_put_47 : decode cX7_put 47 = .ok (.iconst 1, 1) := by decide +kernel
theorem dX7_put_48 : decode cX7_put 48 = .ok (.iadd, 1) := by decide +kernel
theorem dX7_put_49 : decode cX7_put 49 = .ok (.putfield 22, 3) := by decide +kernel
theorem dX7_put_52 : decode cX7_put 52 = .ok (.return_, 1) := by decide +kernel
theorem dX7_kindOfPair_0 : decode cX7_kindOfPair 0 = .ok (.iload_n 0, 1) := by decide +kernel
theorem dX7_kindOfPair_1 : decode cX7_kindOfPair 1 = .ok (.bipush 60, 2) := by decide +kernel
theorem dX7_kindOfPair_3 : decode cX7_kindOfPair 3 = .ok (.if_icmp .ne 13, 3) := by decide +kernel
theorem dX7_kindOfPair_6 : decode cX7_kindOfPair 6 = .ok (.iload_n 1, 1) := by decide +kernel
theorem dX7_kindOfPair_7 : decode cX7_kindOfPair 7 = .ok (.bipush 61, 2) := by decide +kernel
theorem dX7_kindOfPair_9 : decode cX7_kindOfPair 9 = .ok (.if_icmp .ne 7, 3) := by decide +kernel
theorem dX7_kindOfPair_12 : decode cX7_kindOfPair 12 = .ok (.sipush 275, 3) := by decide +kernel
theorem dX7_kindOfPair_15 : decode cX7_kindOfPair 15 = .ok (.ireturn, 1) := by decide +kernel
theorem dX7_kindOfPair_16 : decode cX7_kindOfPair 16 = .ok (.iload_n 0, 1) := by decide +kernel
theorem dX7_kindOfPair_17 : decode cX7_kindOfPair 17 = .ok (.bipush 62, 2) := by decide +kernel
theorem dX7_kindOfPair_19 : decode cX7_kindOfPair 19 = .ok (.if_icmp .ne 13, 3) := by decide +kernel
theorem dX7_kindOfPair_22 : decode cX7_kindOfPair 22 = .ok (.iload_n 1, 1) := by decide +kernel
theorem dX7_kindOfPair_23 : decode cX7_kindOfPair 23 = .ok (.bipush 61, 2) := by decide +kernel
theorem dX7_kindOfPair_25 : decode cX7_kindOfPair 25 = .ok (.if_icmp .ne 7, 3) := by decide +kernel
theorem dX7_kindOfPair_28 : decode cX7_kindOfPair 28 = .ok (.sipush 276, 3) := by decide +kernel
theorem dX7_kindOfPair_31 : decode cX7_kindOfPair 31 = .ok (.ireturn, 1) := by decide +kernel
theorem dX7_kindOfPair_32 : decode cX7_kindOfPair 32 = .ok (.iload_n 0, 1) := by decide +kernel
theorem dX7_kindOfPair_33 : decode cX7_kindOfPair 33 = .ok (.bipush 60, 2) := by decide +kernel
theorem dX7_kindOfPair_35 : decode cX7_kindOfPair 35 = .ok (.if_icmp .ne 15, 3) := by decide +kernel
theorem dX7_kindOfPair_38 : decode cX7_kindOfPair 38 = .ok (.iload_n 1, 1) := by decide +kernel
theorem dX7_kindOfPair_39 : decode cX7_kindOfPair 39 = .ok (.bipush 62, 2) := by decide +kernel
theorem dX7_kindOfPair_41 : decode cX7_kindOfPair 41 = .ok (.if_icmp .ne 9, 3) := by decide +kernel
theorem dX7_kindOfPair_44 : decode cX7_kindOfPair 44 = .ok (.sipush 277, 3) := by decide +kernel
theorem dX7_kindOfPair_47 : decode cX7_kindOfPair 47 = .ok (.goto 6, 3) := by decide +kernel
theorem dX7_kindOfPair_50 : decode cX7_kindOfPair 50 = .ok (.sipush 279, 3) := by decide +kernel
theorem dX7_kindOfPair_53 : decode cX7_kindOfPair 53 = .ok (.ireturn, 1) := by decide +kernel
theorem dX7_kindOfWord_0 : decode cX7_kindOfWord 0 = .ok (.sipush 256, 3) := by decide +kernel
theorem dX7_kindOfWord_3 : decode cX7_kindOfWord 3 = .ok (.istore_n 2, 1) := by decide +kernel
theorem dX7_kindOfWord_4 : decode cX7_kindOfWord 4 = .ok (.lconst 0, 1) := by decide +kernel
theorem dX7_kindOfWord_5 : decode cX7_kindOfWord 5 = .ok (.lstore_n 3, 1) := by decide +kernel
theorem dX7_kindOfWord_6 : decode cX7_kindOfWord 6 = .ok (.iconst 0, 1) := by decide +kernel
theorem dX7_kindOfWord_7 : decode cX7_kindOfWord 7 = .ok (.istore 5, 2) := by decide +kernel
theorem dX7_kindOfWord_9 : decode cX7_kindOfWord 9 = .ok (.iload 5, 2) := by decide +kernel
theorem dX7_kindOfWord_11 : decode cX7_kindOfWord 11 = .ok (.ldc 70, 2) := by decide +kernel
theorem dX7_kindOfWord_13 : decode cX7_kindOfWord 13 = .ok (.invokevirtual 72, 3) := by decide +kernel
theorem dX7_kindOfWord_16 : decode cX7_kindOfWord 16 = .ok (.if_icmp .ge 51, 3) := by decide +kernel
theorem dX7_kindOfWord_19 : decode cX7_kindOfWord 19 = .ok (.ldc 70, 2) := by decide +kernel
theorem dX7_kindOfWord_21 : decode cX7_kindOfWord 21 = .ok (.iload 5, 2) := by decide +kernel
theorem dX7_kindOfWord_23 : decode cX7_kindOfWord 23 = .ok (.invokevirtual 76, 3) := by decide +kernel
theorem dX7_kindOfWord_26 : decode cX7_kindOfWord 26 = .ok (.istore 6, 2) := by decide +kernel
theorem dX7_kindOfWord_28 : decode cX7_kindOfWord 28 = .ok (.iload 6, 2) := by decide +kernel
theorem dX7_kindOfWord_30 : decode cX7_kindOfWord 30 = .ok (.bipush 32, 2) := by decide +kernel
theorem dX7_kindOfWord_32 : decode cX7_kindOfWord 32 = .ok (.if_icmp .eq 16, 3) := by decide +kernel
theorem dX7_kindOfWord_35 : decode cX7_kindOfWord 35 = .ok (.lload_n 3, 1) := by decide +kernel
theorem dX7_kindOfWord_36 : decode cX7_kindOfWord 36 = .ok (.ldc2_w 50, 3) := by decide +kernel
theorem dX7_kindOfWord_39 : decode cX7_kindOfWord 39 = .ok (.lmul, 1) := by decide +kernel
theorem dX7_kindOfWord_40 : decode cX7_kindOfWord 40 = .ok (.iload 6, 2) := by decide +kernel
theorem dX7_kindOfWord_42 : decode cX7_kindOfWord 42 = .ok (.i2l, 1) := by decide +kernel
theorem dX7_kindOfWord_43 : decode cX7_kindOfWord 43 = .ok (.ladd, 1) := by decide +kernel
theorem dX7_kindOfWord_44 : decode cX7_kindOfWord 44 = .ok (.lstore_n 3, 1) := by decide +kernel
theorem dX7_kindOfWord_45 : decode cX7_kindOfWord 45 = .ok (.goto 16, 3) := by decide +kernel
theorem dX7_kindOfWord_48 : decode cX7_kindOfWord 48 = .ok (.lload_n 3, 1) := by decide +kernel
theorem dX7_kindOfWord_49 : decode cX7_kindOfWord 49 = .ok (.lload_n 0, 1) := by decide +kernel
theorem dX7_kindOfWord_50 : decode cX7_kindOfWord 50 = .ok (.lcmp, 1) := by decide +kernel
theorem dX7_kindOfWord_51 : decode cX7_kindOfWord 51 = .ok (.ifCond .ne 5, 3) := by decide +kernel
theorem dX7_kindOfWord_54 : decode cX7_kindOfWord 54 = .ok (.iload_n 2, 1) := by decide +kernel
theorem dX7_kindOfWord_55 : decode cX7_kindOfWord 55 = .ok (.ireturn, 1) := by decide +kernel
theorem dX7_kindOfWord_56 : decode cX7_kindOfWord 56 = .ok (.lconst 0, 1) := by decide +kernel
theorem dX7_kindOfWord_57 : decode cX7_kindOfWord 57 = .ok (.lstore_n 3, 1) := by decide +kernel
theorem dX7_kindOfWord_58 : decode cX7_kindOfWord 58 = .ok (.iinc 2 1, 3) := by decide +kernel
theorem dX7_kindOfWord_61 : decode cX7_kindOfWord 61 = .ok (.iinc 5 1, 3) := by decide +kernel
theorem dX7_kindOfWord_64 : decode cX7_kindOfWord 64 = .ok (.goto (-55), 3) := by decide +kernel
theorem dX7_kindOfWord_67 : decode cX7_kindOfWord 67 = .ok (.sipush 273, 3) := by decide +kernel
theorem dX7_kindOfWord_70 : decode cX7_kindOfWord 70 = .ok (.ireturn, 1) := by decide +kernel
theorem dX7_isLetter_0 : decode cX7_isLetter 0 = .ok (.iload_n 0, 1) := by decide +kernel
theorem dX7_isLetter_1 : decode cX7_isLetter 1 = .ok (.bipush 97, 2) := by decide +kernel
theorem dX7_isLetter_3 : decode cX7_isLetter 3 = .ok (.if_icmp .lt 13, 3) := by decide +kernel
theorem dX7_isLetter_6 : decode cX7_isLetter 6 = .ok (.iload_n 0, 1) := by decide +kernel
theorem dX7_isLetter_7 : decode cX7_isLetter 7 = .ok (.bipush 122, 2) := by decide +kernel
theorem dX7_isLetter_9 : decode cX7_isLetter 9 = .ok (.if_icmp .gt 7, 3) := by decide +kernel
theorem dX7_isLetter_12 : decode cX7_isLetter 12 = .ok (.iconst 1, 1) := by decide +kernel
theorem dX7_isLetter_13 : decode cX7_isLetter 13 = .ok (.goto 4, 3) := by decide +kernel
theorem dX7_isLetter_16 : decode cX7_isLetter 16 = .ok (.iconst 0, 1) := by decide +kernel
theorem dX7_isLetter_17 : decode cX7_isLetter 17 = .ok (.ireturn, 1) := by decide +kernel
theorem dX7_isDigit_0 : decode cX7_isDigit 0 = .ok (.iload_n 0, 1) := by decide +kernel
theorem dX7_isDigit_1 : decode cX7_isDigit 1 = .ok (.bipush 48, 2) := by decide +kernel
theorem dX7_isDigit_3 : decode cX7_isDigit 3 = .ok (.if_icmp .lt 13, 3) := by decide +kernel
theorem dX7_isDigit_6 : decode cX7_isDigit 6 = .ok (.iload_n 0, 1) := by decide +kernel
theorem dX7_isDigit_7 : decode cX7_isDigit 7 = .ok (.bipush 57, 2) := by decide +kernel
theorem dX7_isDigit_9 : decode cX7_isDigit 9 = .ok (.if_icmp .gt 7, 3) := by decide +kernel
theorem dX7_isDigit_12 : decode cX7_isDigit 12 = .ok (.iconst 1, 1) := by decide +kernel
theorem dX7_isDigit_13 : decode cX7_isDigit 13 = .ok (.goto 4, 3) := by decide +kernel
theorem dX7_isDigit_16 : decode cX7_isDigit 16 = .ok (.iconst 0, 1) := by decide +kernel
theorem dX7_isDigit_17 : decode cX7_isDigit 17 = .ok (.ireturn, 1) := by decide +kernel
theorem dX8_init_0 : decode cX8_init 0 = .ok (.aload_n 0, 1) := by decide +kernel
theorem dX8_init_1 : decode cX8_init 1 = .ok (.invokespecial 1, 3) := by decide +kernel
theorem dX8_init_4 : decode cX8_init 4 = .ok (.aload_n 0, 1) := by decide +kernel
theorem dX8_init_5 : decode cX8_init 5 = .ok (.sipush 1500, 3) := by decide +kernel
theorem dX8_init_8 : decode cX8_init 8 = .ok (.newarray .int, 2) := by decide +kernel
theorem dX8_init_10 : decode cX8_init 10 = .ok (.putfield 9, 3) := by decide +kernel
theorem dX8_init_13 : decode cX8_init 13 = .ok (.aload_n 0, 1) := by decide +kernel
theorem dX8_init_14 : decode cX8_init 14 = .ok (.new 13, 3) := by decide +kernel
theorem dX8_init_17 : decode cX8_init 17 = .ok (.dup, 1) := by decide +kernel
theorem dX8_init_18 : decode cX8_init 18 = .ok (.invokespecial 15, 3) := by decide +kernel
theorem dX8_init_21 : decode cX8_init 21 = .ok (.putfield 16, 3) := by decide +kernel
theorem dX8_init_24 : decode cX8_init 24 = .ok (.aload_n 0, 1) := by decide +kernel
theorem dX8_init_25 : decode cX8_init 25 = .ok (.new 20, 3) := by decide +kernel
theorem dX8_init_28 : decode cX8_init 28 = .ok (.dup, 1) := by decide +kernel
theorem dX8_init_29 : decode cX8_init 29 = .ok (.invokespecial 22, 3) := by decide +kernel
theorem dX8_init_32 : decode cX8_init 32 = .ok (.putfield 23, 3) := by decide +kernel
theorem dX8_init_35 : decode cX8_init 35 = .ok (.aload_n 0, 1) := by decide +kernel
theorem dX8_init_36 : decode cX8_init 36 = .ok (.new 27, 3) := by decide +kernel
theorem dX8_init_39 : decode cX8_init 39 = .ok (.dup, 1) := by decide +kernel
theorem dX8_init_40 : decode cX8_init 40 = .ok (.invokespecial 29, 3) := by decide +kernel
theorem dX8_init_43 : decode cX8_init 43 = .ok (.putfield 30, 3) := by decide +kernel
theorem dX8_init_46 : decode cX8_init 46 = .ok (.aload_n 0, 1) := by decide +kernel
theorem dX8_init_47 : decode cX8_init 47 = .ok (.new 34, 3) := by decide +kernel
theorem dX8_init_50 : decode cX8_init 50 = .ok (.dup, 1) := by decide +kernel
theorem dX8_init_51 : decode cX8_init 51 = .ok (.aload_n 0, 1) := by decide +kernel
theorem dX8_init_52 : decode cX8_init 52 = .ok (.getfield 16, 3) := by decide +kernel
theorem dX8_init_55 : decode cX8_init 55 = .ok (.aload_n 0, 1) := by decide +kernel
theorem dX8_init_56 : decode cX8_init 56 = .ok (.getfield 23, 3) := by decide +kernel
theorem dX8_init_59 : decode cX8_init 59 = .ok (.aload_n 0, 1) := by decide +kernel
theorem dX8_init_60 : decode cX8_init 60 = .ok (.getfield 30, 3) := by decide +kernel
theorem dX8_init_63 : decode cX8_init 63 = .ok (.invokespecial 36, 3) := by decide +kernel
theorem dX8_init_66 : decode cX8_init 66 = .ok (.putfield 39, 3) := by decide +kernel
theorem dX8_init_69 : decode cX8_init 69 = .ok (.aload_n 0, 1) := by decide +kernel
theorem dX8_init_70 : decode cX8_init 70 = .ok (.new 43, 3) := by decide +kernel
theorem dX8_init_73 : decode cX8_init 73 = .ok (.dup, 1) := by decide +kernel
theorem dX8_init_74 : decode cX8_init 74 = .ok (.aload_n 0, 1) := by decide +kernel
theorem dX8_init_75 : decode cX8_init 75 = .ok (.getfield 30, 3) := by decide +kernel
theorem dX8_init_78 : decode cX8_init 78 = .ok (.aload_n 0, 1) := by decide +kernel
theorem dX8_init_79 : decode cX8_init 79 = .ok (.getfield 23, 3) := by decide +kernel
theorem dX8_init_82 : decode cX8_init 82 = .ok (.invokespecial 45, 3) := by decide +kernel
theorem dX8_init_85 : decode cX8_init 85 = .ok (.putfield 48, 3) := by decide +kernel
theorem dX8_init_88 : decode cX8_init 88 = .ok (.aload_n 0, 1) := by decide +kernel
theorem dX8_init_89 : decode cX8_init 89 = .ok (.new 52, 3) := by decide +kernel
theorem dX8_init_92 : decode cX8_init 92 = .ok (.dup, 1) := by decide +kernel
theorem dX8_init_93 : decode cX8_init 93 = .ok (.aload_n 0, 1) := by decide +kernel
theorem dX8_init_94 : decode cX8_init 94 = .ok (.getfield 48, 3) := by decide +kernel
theorem dX8_init_97 : decode cX8_init 97 = .ok (.invokespecial 54, 3) := by decide +kernel
theorem dX8_init_100 : decode cX8_init 100 = .ok (.putfield 57, 3) := by decide +kernel
theorem dX8_init_103 : decode cX8_init 103 = .ok (.aload_n 0, 1) := by decide +kernel
theorem dX8_init_104 : decode cX8_init 104 = .ok (.new 61, 3) := by decide +kernel
theorem dX8_init_107 : decode cX8_init 107 = .ok (.dup, 1) := by decide +kernel
theorem dX8_init_108 : decode cX8_init 108 = .ok (.aload_n 0, 1) := by decide +kernel
theorem dX8_init_109 : decode cX8_init 109 = .ok (.getfield 48, 3) := by decide +kernel
theorem dX8_init_112 : decode cX8_init 112 = .ok (.invokespecial 63, 3) := by decide +kernel
theorem dX8_init_115 : decode cX8_init 115 = .ok (.putfield 64, 3) := by decide +kernel
theorem dX8_init_118 : decode cX8_init 118 = .ok (.aload_n 0, 1) := by decide +kernel
theorem dX8_init_119 : decode cX8_init 119 = .ok (.iconst 3, 1) := by decide +kernel
theorem dX8_init_120 : decode cX8_init 120 = .ok (.newarray .int, 2) := by decide +kernel
theorem dX8_init_122 : decode cX8_init 122 = .ok (.putfield 68, 3) := by decide +kernel
theorem dX8_init_125 : decode cX8_init 125 = .ok (.aload_n 0, 1) := by decide +kernel
theorem dX8_init_126 : decode cX8_init 126 = .ok (.bipush 13, 2) := by decide +kernel
theorem dX8_init_128 : decode cX8_init 128 = .ok (.anewarray 71, 3) := by decide +kernel
theorem dX8_init_131 : decode cX8_init 131 = .ok (.putfield 73, 3) := by decide +kernel
theorem dX8_init_134 : decode cX8_init 134 = .ok (.iconst 0, 1) := by decide +kernel
theorem dX8_init_135 : decode cX8_init 135 = .ok (.istore_n 1, 1) := by decide +kernel
theorem dX8_init_136 : decode cX8_init 136 = .ok (.iload_n 1, 1) := by decide +kernel
theorem dX8_init_137 : decode cX8_init 137 = .ok (.aload_n 0, 1) := by decide +kernel
theorem dX8_init_138 : decode cX8_init 138 = .ok (.getfield 73, 3) := by decide +kernel
theorem dX8_init_141 : decode cX8_init 141 = .ok (.arraylength, 1) := by decide +kernel
theorem dX8_init_142 : decode cX8_init 142 = .ok (.if_icmp .ge 22, 3) := by decide +kernel
theorem dX8_init_145 : decode cX8_init 145 = .ok (.aload_n 0, 1) := by decide +kernel
theorem dX8_init_146 : decode cX8_init 146 = .ok (.getfield 73, 3) := by decide +kernel
theorem dX8_init_149 : decode cX8_init 149 = .ok (.iload_n 1, 1) := by decide +kernel
theorem dX8_init_150 : decode cX8_init 150 = .ok (.new 71, 3) := by decide +kernel
theorem dX8_init_153 : decode cX8_init 153 = .ok (.dup, 1) := by decide +kernel
theorem dX8_init_154 : decode cX8_init 154 = .ok (.invokespecial 77, 3) := by decide +kernel
theorem dX8_init_157 : decode cX8_init 157 = .ok (.aastore, 1) := by decide +kernel
theorem dX8_init_158 : decode cX8_init 158 = .ok (.iinc 1 1, 3) := by decide +kernel
theorem dX8_init_161 : decode cX8_init 161 = .ok (.goto (-25), 3) := by decide +kernel
theorem dX8_init_164 : decode cX8_init 164 = .ok (.aload_n 0, 1) := by decide +kernel
theorem dX8_init_165 : decode cX8_init 165 = .ok (.iconst (-1), 1) := by decide +kernel
theorem dX8_init_166 : decode cX8_init 166 = .ok (.putfield 78, 3) := by decide +kernel
theorem dX8_init_169 : decode cX8_init 169 = .ok (.return_, 1) := by decide +kernel
theorem dX8_feed_0 : decode cX8_feed 0 = .ok (.aload_n 0, 1) := by decide +kernel
theorem dX8_feed_1 : decode cX8_feed 1 = .ok (.getfield 82, 3) := by decide +kernel
theorem dX8_feed_4 : decode cX8_feed 4 = .ok (.sipush 1480, 3) := by decide +kernel
theorem dX8_feed_7 : decode cX8_feed 7 = .ok (.if_icmp .le 13, 3) := by decide +kernel
theorem dX8_feed_10 : decode cX8_feed 10 = .ok (.new 85, 3) := by decide +kernel
theorem dX8_feed_13 : decode cX8_feed 13 = .ok (.dup, 1) := by decide +kernel
theorem dX8_feed_14 : decode cX8_feed 14 = .ok (.ldc 87, 2) := by decide +kernel
theorem dX8_feed_16 : decode cX8_feed 16 = .ok (.invokespecial 89, 3) := by decide +kernel
theorem dX8_feed_19 : decode cX8_feed 19 = .ok (.athrow, 1) := by decide +kernel
theorem dX8_feed_20 : decode cX8_feed 20 = .ok (.aload_n 0, 1) := by decide +kernel
theorem dX8_feed_21 : decode cX8_feed 21 = .ok (.iload_n 1, 1) := by decide +kernel
theorem dX8_feed_22 : decode cX8_feed 22 = .ok (.invokevirtual 92, 3) := by decide +kernel
theorem dX8_feed_25 : decode cX8_feed 25 = .ok (.aload_n 0, 1) := by decide +kernel
theorem dX8_feed_26 : decode cX8_feed 26 = .ok (.iload_n 2, 1) := by decide +kernel
theorem dX8_feed_27 : decode cX8_feed 27 = .ok (.invokevirtual 92, 3) := by decide +kernel
theorem dX8_feed_30 : decode cX8_feed 30 = .ok (.aload_n 0, 1) := by decide +kernel
theorem dX8_feed_31 : decode cX8_feed 31 = .ok (.iload_n 3, 1) := by decide +kernel
theorem dX8_feed_32 : decode cX8_feed 32 = .ok (.invokevirtual 92, 3) := by decide +kernel
theorem dX8_feed_35 : decode cX8_feed 35 = .ok (.aload_n 0, 1) := by decide +kernel
theorem dX8_feed_36 : decode cX8_feed 36 = .ok (.iload 4, 2) := by decide +kernel
theorem dX8_feed_38 : decode cX8_feed 38 = .ok (.invokevirtual 92, 3) := by decide +kernel
theorem dX8_feed_41 : decode cX8_feed 41 = .ok (.aload_n 0, 1) := by decide +kernel
theorem dX8_feed_42 : decode cX8_feed 42 = .ok (.iload 5, 2) := by decide +kernel
theorem dX8_feed_44 : decode cX8_feed 44 = .ok (.invokevirtual 92, 3) := by decide +kernel
theorem dX8_feed_47 : decode cX8_feed 47 = .ok (.aload_n 0, 1) := by decide +kernel
theorem dX8_feed_48 : decode cX8_feed 48 = .ok (.getfield 82, 3) := by decide +kernel
theorem dX8_feed_51 : decode cX8_feed 51 = .ok (.ireturn, 1) := by decide +kernel
theorem dX8_trim_0 : decode cX8_trim 0 = .ok (.aload_n 0, 1) := by decide +kernel
theorem dX8_trim_1 : decode cX8_trim 1 = .ok (.iload_n 1, 1) := by decide +kernel
theorem dX8_trim_2 : decode cX8_trim 2 = .ok (.iconst 0, 1) := by decide +kernel
theorem dX8_trim_3 : decode cX8_trim 3 = .ok (.aload_n 0, 1) := by decide +kernel
theorem dX8_trim_4 : decode cX8_trim 4 = .ok (.getfield 82, 3) := by decide +kernel
theorem dX8_trim_7 : decode cX8_trim 7 = .ok (.invokevirtual 96, 3) := by decide +kernel
theorem dX8_trim_10 : decode cX8_trim 10 = .ok (.aload_n 0, 1) := by decide +kernel
theorem dX8_trim_11 : decode cX8_trim 11 = .ok (.iload_n 1, 1) := by decide +kernel
theorem dX8_trim_12 : decode cX8_trim 12 = .ok (.putfield 82, 3) := by decide +kernel
theorem dX8_trim_15 : decode cX8_trim 15 = .ok (.iload_n 1, 1) := by decide +kernel
theorem dX8_trim_16 : decode cX8_trim 16 = .ok (.ireturn, 1) := by decide +kernel
theorem dX8_compile_0 : decode cX8_compile 0 = .ok (.aload_n 0, 1) := by decide +kernel
theorem dX8_compile_1 : decode cX8_compile 1 = .ok (.invokevirtual 100, 3) := by decide +kernel
theorem dX8_compile_4 : decode cX8_compile 4 = .ok (.aload_n 0, 1) := by decide +kernel
theorem dX8_compile_5 : decode cX8_compile 5 = .ok (.getfield 16, 3) := by decide +kernel
theorem dX8_compile_8 : decode cX8_compile 8 = .ok (.aload_n 0, 1) := by decide +kernel
theorem dX8_compile_9 : decode cX8_compile 9 = .ok (.getfield 9, 3) := by decide +kernel
theorem dX8_compile_12 : decode cX8_compile 12 = .ok (.aload_n 0, 1) := by decide +kernel
theorem dX8_compile_13 : decode cX8_compile 13 = .ok (.getfield 82, 3) := by decide +kernel
theorem dX8_compile_16 : decode cX8_compile 16 = .ok (.invokevirtual 103, 3) := by decide +kernel
theorem dX8_compile_19 : decode cX8_compile 19 = .ok (.aload_n 0, 1) := by decide +kernel
theorem dX8_compile_20 : decode cX8_compile 20 = .ok (.iconst 0, 1) := by decide +kernel
theorem dX8_compile_21 : decode cX8_compile 21 = .ok (.putfield 82, 3) := by decide +kernel
theorem dX8_compile_24 : decode cX8_compile 24 = .ok (.aload_n 0, 1) := by decide +kernel
theorem dX8_compile_25 : decode cX8_compile 25 = .ok (.getfield 39, 3) := by decide +kernel
theorem dX8_compile_28 : decode cX8_compile 28 = .ok (.iconst 0, 1) := by decide +kernel
theorem dX8_compile_29 : decode cX8_compile 29 = .ok (.invokevirtual 107, 3) := by decide +kernel
theorem dX8_compile_32 : decode cX8_compile 32 = .ok (.aload_n 0, 1) := by decide +kernel
theorem dX8_compile_33 : decode cX8_compile 33 = .ok (.getfield 39, 3) := by decide +kernel
theorem dX8_compile_36 : decode cX8_compile 36 = .ok (.getfield 111, 3) := by decide +kernel
theorem dX8_compile_39 : decode cX8_compile 39 = .ok (.ifCond .ne 11, 3) := by decide +kernel
theorem dX8_compile_42 : decode cX8_compile 42 = .ok (.aload_n 0, 1) := by decide +kernel
theorem dX8_compile_43 : decode cX8_compile 43 = .ok (.getfield 39, 3) := by decide +kernel
theorem dX8_compile_46 : decode cX8_compile 46 = .ok (.iconst 1, 1) := by decide +kernel
theorem dX8_compile_47 : decode cX8_compile 47 = .ok (.invokevirtual 107, 3) := by decide +kernel
theorem dX8_compile_50 : decode cX8_compile 50 = .ok (.aload_n 0, 1) := by decide +kernel
theorem dX8_compile_51 : decode cX8_compile 51 = .ok (.getfield 39, 3) := by decide +kernel
theorem dX8_compile_54 : decode cX8_compile 54 = .ok (.getfield 111, 3) := by decide +kernel
theorem dX8_compile_57 : decode cX8_compile 57 = .ok (.istore_n 1, 1) := by decide +kernel
theorem dX8_compile_58 : decode cX8_compile 58 = .ok (.aload_n 0, 1) := by decide +kernel
theorem dX8_compile_59 : decode cX8_compile 59 = .ok (.aload_n 0, 1) := by decide +kernel
theorem dX8_compile_60 : decode cX8_compile 60 = .ok (.getfield 39, 3) := by decide +kernel
theorem dX8_compile_63 : decode cX8_compile 63 = .ok (.getfield 114, 3) := by decide +kernel
theorem dX8_compile_66 : decode cX8_compile 66 = .ok (.putfield 78, 3) := by decide +kernel
theorem dX8_compile_69 : decode cX8_compile 69 = .ok (.iload_n 1, 1) := by decide +kernel
theorem dX8_compile_70 : decode cX8_compile 70 = .ok (.ifCond .ne 22, 3) := by decide +kernel
theorem dX8_compile_73 : decode cX8_compile 73 = .ok (.aload_n 0, 1) := by decide +kernel
theorem dX8_compile_74 : decode cX8_compile 74 = .ok (.getfield 48, 3) := by decide +kernel
theorem dX8_compile_77 : decode cX8_compile 77 = .ok (.invokevirtual 115, 3) := by decide +kernel
theorem dX8_compile_80 : decode cX8_compile 80 = .ok (.istore_n 1, 1) := by decide +kernel
theorem dX8_compile_81 : decode cX8_compile 81 = .ok (.aload_n 0, 1) := by decide +kernel
theorem dX8_compile_82 : decode cX8_compile 82 = .ok (.aload_n 0, 1) := by decide +kernel
theorem dX8_compile_83 : decode cX8_compile 83 = .ok (.getfield 48, 3) := by decide +kernel
theorem dX8_compile_86 : decode cX8_compile 86 = .ok (.getfield 119, 3) := by decide +kernel
theorem dX8_compile_89 : decode cX8_compile 89 = .ok (.putfield 78, 3) := by decide +kernel
theorem dX8_compile_92 : decode cX8_compile 92 = .ok (.iload_n 1, 1) := by decide +kernel
theorem dX8_compile_93 : decode cX8_compile 93 = .ok (.ifCond .eq 7, 3) := by decide +kernel
theorem dX8_compile_96 : decode cX8_compile 96 = .ok (.aload_n 0, 1) := by decide +kernel
theorem dX8_compile_97 : decode cX8_compile 97 = .ok (.invokevirtual 100, 3) := by decide +kernel
theorem dX8_compile_100 : decode cX8_compile 100 = .ok (.iload_n 1, 1) := by decide +kernel
theorem dX8_compile_101 : decode cX8_compile 101 = .ok (.ireturn, 1) := by decide +kernel
theorem dX8_count_0 : decode cX8_count 0 = .ok (.iload_n 1, 1) := by decide +kernel
theorem dX8_count_1 : decode cX8_count 1 = .ok (.tableswitch 81 0 5 #[39, 47, 55, 63, 71, 76], 39) := by decide +kernel
theorem dX8_count_40 : decode cX8_count 40 = .ok (.aload_n 0, 1) := by decide +kernel
theorem dX8_count_41 : decode cX8_count 41 = .ok (.getfield 30, 3) := by decide +kernel
theorem dX8_count_44 : decode cX8_count 44 = .ok (.getfield 120, 3) := by decide +kernel
theorem dX8_count_47 : decode cX8_count 47 = .ok (.ireturn, 1) := by decide +kernel
theorem dX8_count_48 : decode cX8_count 48 = .ok (.aload_n 0, 1) := by decide +kernel
theorem dX8_count_49 : decode cX8_count 49 = .ok (.getfield 30, 3) := by decide +kernel
theorem dX8_count_52 : decode cX8_count 52 = .ok (.getfield 123, 3) := by decide +kernel
theorem dX8_count_55 : decode cX8_count 55 = .ok (.ireturn, 1) := by decide +kernel
theorem dX8_count_56 : decode cX8_count 56 = .ok (.aload_n 0, 1) := by decide +kernel
theorem dX8_count_57 : decode cX8_count 57 = .ok (.getfield 30, 3) := by decide +kernel
theorem dX8_count_60 : decode cX8_count 60 = .ok (.getfield 126, 3) := by decide +kernel
theorem dX8_count_63 : decode cX8_count 63 = .ok (.ireturn, 1) := by decide +kernel
theorem dX8_count_64 : decode cX8_count 64 = .ok (.aload_n 0, 1) := by decide +kernel
theorem dX8_count_65 : decode cX8_count 65 = .ok (.getfield 48, 3) := by decide +kernel
theorem dX8_count_68 : decode cX8_count 68 = .ok (.getfield 129, 3) := by decide +kernel
theorem dX8_count_71 : decode cX8_count 71 = .ok (.ireturn, 1) := by decide +kernel
theorem dX8_count_72 : decode cX8_count 72 = .ok (.aload_n 0, 1) := by decide +kernel
theorem dX8_count_73 : decode cX8_count 73 = .ok (.getfield 132, 3) := by decide +kernel
theorem dX8_count_76 : decode cX8_count 76 = .ok (.ireturn, 1) := by decide +kernel
theorem dX8_count_77 : decode cX8_count 77 = .ok (.aload_n 0, 1) := by decide +kernel
theorem dX8_count_78 : decode cX8_count 78 = .ok (.getfield 82, 3) := by decide +kernel
theorem dX8_count_81 : decode cX8_count 81 = .ok (.ireturn, 1) := by decide +kernel
theorem dX8_count_82 : decode cX8_count 82 = .ok (.new 135, 3) := by decide +kernel
theorem dX8_count_85 : decode cX8_count 85 = .ok (.dup, 1) := by decide +kernel
theorem dX8_count_86 : decode cX8_count 86 = .ok (.ldc 137, 2) := by decide +kernel
theorem dX8_count_88 : decode cX8_count 88 = .ok (.invokespecial 139, 3) := by decide +kernel
theorem dX8_count_91 : decode cX8_count 91 = .ok (.athrow, 1) := by decide +kernel
theorem dX8_choices_0 : decode cX8_choices 0 = .ok (.aload_n 0, 1) := by decide +kernel
theorem dX8_choices_1 : decode cX8_choices 1 = .ok (.iload_n 1, 1) := by decide +kernel
theorem dX8_choices_2 : decode cX8_choices 2 = .ok (.invokevirtual 140, 3) := by decide +kernel
theorem dX8_choices_5 : decode cX8_choices 5 = .ok (.aload_n 0, 1) := by decide +kernel
theorem dX8_choices_6 : decode cX8_choices 6 = .ok (.getfield 48, 3) := by decide +kernel
theorem dX8_choices_9 : decode cX8_choices 9 = .ok (.getfield 165, 3) := by decide +kernel
theorem dX8_choices_12 : decode cX8_choices 12 = .ok (.iload_n 1, 1) := by decide +kernel
theorem dX8_choices_13 : decode cX8_choices 13 = .ok (.iaload, 1) := by decide +kernel
theorem dX8_choices_14 : decode cX8_choices 14 = .ok (.ireturn, 1) := by decide +kernel
theorem dX8_choice_0 : decode cX8_choice 0 = .ok (.aload_n 0, 1) := by decide +kernel
theorem dX8_choice_1 : decode cX8_choice 1 = .ok (.iload_n 1, 1) := by decide +kernel
theorem dX8_choice_2 : decode cX8_choice 2 = .ok (.iload_n 2, 1) := by decide +kernel
theorem dX8_choice_3 : decode cX8_choice 3 = .ok (.invokevirtual 168, 3) := by decide +kernel
theorem dX8_choice_6 : decode cX8_choice 6 = .ok (.aload_n 0, 1) := by decide +kernel
theorem dX8_choice_7 : decode cX8_choice 7 = .ok (.iload_n 3, 1) := by decide +kernel
theorem dX8_choice_8 : decode cX8_choice 8 = .ok (.iconst 2, 1) := by decide +kernel
theorem dX8_choice_9 : decode cX8_choice 9 = .ok (.invokevirtual 157, 3) := by decide +kernel
theorem dX8_choice_12 : decode cX8_choice 12 = .ok (.iload_n 3, 1) := by decide +kernel
theorem dX8_choice_13 : decode cX8_choice 13 = .ok (.ifCond .ne 15, 3) := by decide +kernel
theorem dX8_choice_16 : decode cX8_choice 16 = .ok (.aload_n 0, 1) := by decide +kernel
theorem dX8_choice_17 : decode cX8_choice 17 = .ok (.getfield 48, 3) := by decide +kernel
theorem dX8_choice_20 : decode cX8_choice 20 = .ok (.iload_n 1, 1) := by decide +kernel
theorem dX8_choice_21 : decode cX8_choice 21 = .ok (.iload_n 2, 1) := by decide +kernel
theorem dX8_choice_22 : decode cX8_choice 22 = .ok (.invokevirtual 171, 3) := by decide +kernel
theorem dX8_choice_25 : decode cX8_choice 25 = .ok (.goto 12, 3) := by decide +kernel
theorem dX8_choice_28 : decode cX8_choice 28 = .ok (.aload_n 0, 1) := by decide +kernel
theorem dX8_choice_29 : decode cX8_choice 29 = .ok (.getfield 48, 3) := by decide +kernel
theorem dX8_choice_32 : decode cX8_choice 32 = .ok (.iload_n 1, 1) := by decide +kernel
theorem dX8_choice_33 : decode cX8_choice 33 = .ok (.iload_n 2, 1) := by decide +kernel
theorem dX8_choice_34 : decode cX8_choice 34 = .ok (.invokevirtual 175, 3) := by decide +kernel
theorem dX8_choice_37 : decode cX8_choice 37 = .ok (.ireturn, 1) := by decide +kernel
theorem dX8_gain_0 : decode cX8_gain 0 = .ok (.aload_n 0, 1) := by decide +kernel
theorem dX8_gain_1 : decode cX8_gain 1 = .ok (.iload_n 1, 1) := by decide +kernel
theorem dX8_gain_2 : decode cX8_gain 2 = .ok (.iload_n 2, 1) := by decide +kernel
theorem dX8_gain_3 : decode cX8_gain 3 = .ok (.invokevirtual 168, 3) := by decide +kernel
theorem dX8_gain_6 : decode cX8_gain 6 = .ok (.aload_n 0, 1) := by decide +kernel
theorem dX8_gain_7 : decode cX8_gain 7 = .ok (.iload_n 3, 1) := by decide +kernel
theorem dX8_gain_8 : decode cX8_gain 8 = .ok (.invokevirtual 178, 3) := by decide +kernel
theorem dX8_gain_11 : decode cX8_gain 11 = .ok (.aload_n 0, 1) := by decide +kernel
theorem dX8_gain_12 : decode cX8_gain 12 = .ok (.getfield 48, 3) := by decide +kernel
theorem dX8_gain_15 : decode cX8_gain 15 = .ok (.iload_n 1, 1) := by decide +kernel
theorem dX8_gain_16 : decode cX8_gain 16 = .ok (.iload_n 2, 1) := by decide +kernel
theorem dX8_gain_17 : decode cX8_gain 17 = .ok (.iload_n 3, 1) := by decide +kernel
theorem dX8_gain_18 : decode cX8_gain 18 = .ok (.invokevirtual 181, 3) := by decide +kernel
theorem dX8_gain_21 : decode cX8_gain 21 = .ok (.lreturn, 1) := by decide +kernel
theorem dX8_branch_0 : decode cX8_branch 0 = .ok (.aload_n 0, 1) := by decide +kernel
theorem dX8_branch_1 : decode cX8_branch 1 = .ok (.iload_n 1, 1) := by decide +kernel
theorem dX8_branch_2 : decode cX8_branch 2 = .ok (.iload_n 2, 1) := by decide +kernel
theorem dX8_branch_3 : decode cX8_branch 3 = .ok (.invokevirtual 168, 3) := by decide +kernel
theorem dX8_branch_6 : decode cX8_branch 6 = .ok (.aload_n 0, 1) := by decide +kernel
theorem dX8_branch_7 : decode cX8_branch 7 = .ok (.iload_n 3, 1) := by decide +kernel
theorem dX8_branch_8 : decode cX8_branch 8 = .ok (.aload_n 0, 1) := by decide +kernel
theorem dX8_branch_9 : decode cX8_branch 9 = .ok (.getfield 48, 3) := by decide +kernel
theorem dX8_branch_12 : decode cX8_branch 12 = .ok (.iload_n 1, 1) := by decide +kernel
theorem dX8_branch_13 : decode cX8_branch 13 = .ok (.iload_n 2, 1) := by decide +kernel
theorem dX8_branch_14 : decode cX8_branch 14 = .ok (.invokevirtual 175, 3) := by decide +kernel
theorem dX8_branch_17 : decode cX8_branch 17 = .ok (.invokevirtual 157, 3) := by decide +kernel
theorem dX8_branch_20 : decode cX8_branch 20 = .ok (.iload 4, 2) := by decide +kernel
theorem dX8_branch_22 : decode cX8_branch 22 = .ok (.ifCond .eq 14, 3) := by decide +kernel
theorem dX8_branch_25 : decode cX8_branch 25 = .ok (.aload_n 0, 1) := by decide +kernel
theorem dX8_branch_26 : decode cX8_branch 26 = .ok (.getfield 48, 3) := by decide +kernel
theorem dX8_branch_29 : decode cX8_branch 29 = .ok (.iload_n 1, 1) := by decide +kernel
theorem dX8_branch_30 : decode cX8_branch 30 = .ok (.iload_n 2, 1) := by decide +kernel
theorem dX8_branch_31 : decode cX8_branch 31 = .ok (.iload_n 3, 1) := by decide +kernel
theorem dX8_branch_32 : decode cX8_branch 32 = .ok (.invokevirtual 185, 3) := by decide +kernel
theorem dX8_branch_35 : decode cX8_branch 35 = .ok (.ireturn, 1) := by decide +kernel
theorem dX8_branch_36 : decode cX8_branch 36 = .ok (.aload_n 0, 1) := by decide +kernel
theorem dX8_branch_37 : decode cX8_branch 37 = .ok (.getfield 48, 3) := by decide +kernel
theorem dX8_branch_40 : decode cX8_branch 40 = .ok (.iload_n 1, 1) := by decide +kernel
theorem dX8_branch_41 : decode cX8_branch 41 = .ok (.iload_n 2, 1) := by decide +kernel
theorem dX8_branch_42 : decode cX8_branch 42 = .ok (.iload_n 3, 1) := by decide +kernel
theorem dX8_branch_43 : decode cX8_branch 43 = .ok (.invokevirtual 189, 3) := by decide +kernel
theorem dX8_branch_46 : decode cX8_branch 46 = .ok (.ireturn, 1) := by decide +kernel
theorem dX8_weigh_0 : decode cX8_weigh 0 = .ok (.aload_n 0, 1) := by decide +kernel
theorem dX8_weigh_1 : decode cX8_weigh 1 = .ok (.iload_n 1, 1) := by decide +kernel
theorem dX8_weigh_2 : decode cX8_weigh 2 = .ok (.invokevirtual 178, 3) := by decide +kernel
theorem dX8_weigh_5 : decode cX8_weigh 5 = .ok (.aload_n 0, 1) := by decide +kernel
theorem dX8_weigh_6 : decode cX8_weigh 6 = .ok (.iload_n 2, 1) := by decide +kernel
theorem dX8_weigh_7 : decode cX8_weigh 7 = .ok (.bipush (-9), 2) := by decide +kernel
theorem dX8_weigh_9 : decode cX8_weigh 9 = .ok (.bipush 9, 2) := by decide +kernel
theorem dX8_weigh_11 : decode cX8_weigh 11 = .ok (.invokevirtual 96, 3) := by decide +kernel
theorem dX8_weigh_14 : decode cX8_weigh 14 = .ok (.aload_n 0, 1) := by decide +kernel
theorem dX8_weigh_15 : decode cX8_weigh 15 = .ok (.getfield 68, 3) := by decide +kernel
theorem dX8_weigh_18 : decode cX8_weigh 18 = .ok (.iload_n 1, 1) := by decide +kernel
theorem dX8_weigh_19 : decode cX8_weigh 19 = .ok (.iaload, 1) := by decide +kernel
theorem dX8_weigh_20 : decode cX8_weigh 20 = .ok (.istore_n 3, 1) := by decide +kernel
theorem dX8_weigh_21 : decode cX8_weigh 21 = .ok (.aload_n 0, 1) := by decide +kernel
theorem dX8_weigh_22 : decode cX8_weigh 22 = .ok (.getfield 68, 3) := by decide +kernel
theorem dX8_weigh_25 : decode cX8_weigh 25 = .ok (.iload_n 1, 1) := by decide +kernel
theorem dX8_weigh_26 : decode cX8_weigh 26 = .ok (.iload_n 2, 1) := by decide +kernel
theorem dX8_weigh_27 : decode cX8_weigh 27 = .ok (.iastore, 1) := by decide +kernel
theorem dX8_weigh_28 : decode cX8_weigh 28 = .ok (.iload_n 3, 1) := by decide +kernel
theorem dX8_weigh_29 : decode cX8_weigh 29 = .ok (.ireturn, 1) := by decide +kernel
theorem dX8_solve_0 : decode cX8_solve 0 = .ok (.aload_n 0, 1) := by decide +kernel
theorem dX8_solve_1 : decode cX8_solve 1 = .ok (.iload_n 1, 1) := by decide +kernel
theorem dX8_solve_2 : decode cX8_solve 2 = .ok (.iconst 1, 1) := by decide +kernel
theorem dX8_solve_3 : decode cX8_solve 3 = .ok (.bipush 30, 2) := by decide +kernel
theorem dX8_solve_5 : decode cX8_solve 5 = .ok (.invokevirtual 96, 3) := by decide +kernel
theorem dX8_solve_8 : decode cX8_solve 8 = .ok (.aload_n 0, 1) := by decide +kernel
theorem dX8_solve_9 : decode cX8_solve 9 = .ok (.invokevirtual 192, 3) := by decide +kernel
theorem dX8_solve_12 : decode cX8_solve 12 = .ok (.aload_n 0, 1) := by decide +kernel
theorem dX8_solve_13 : decode cX8_solve 13 = .ok (.aload_n 0, 1) := by decide +kernel
theorem dX8_solve_14 : decode cX8_solve 14 = .ok (.getfield 132, 3) := by decide +kernel
theorem dX8_solve_17 : decode cX8_solve 17 = .ok (.invokevirtual 195, 3) := by decide +kernel
theorem dX8_solve_20 : decode cX8_solve 20 = .ok (.aload_n 0, 1) := by decide +kernel
theorem dX8_solve_21 : decode cX8_solve 21 = .ok (.getfield 73, 3) := by decide +kernel
theorem dX8_solve_24 : decode cX8_solve 24 = .ok (.aload_n 0, 1) := by decide +kernel
theorem dX8_solve_25 : decode cX8_solve 25 = .ok (.getfield 132, 3) := by decide +kernel
theorem dX8_solve_28 : decode cX8_solve 28 = .ok (.aaload, 1) := by decide +kernel
theorem dX8_solve_29 : decode cX8_solve 29 = .ok (.astore_n 2, 1) := by decide +kernel
theorem dX8_solve_30 : decode cX8_solve 30 = .ok (.iconst 0, 1) := by decide +kernel
theorem dX8_solve_31 : decode cX8_solve 31 = .ok (.istore_n 3, 1) := by decide +kernel
theorem dX8_solve_32 : decode cX8_solve 32 = .ok (.iload_n 3, 1) := by decide +kernel
theorem dX8_solve_33 : decode cX8_solve 33 = .ok (.iconst 3, 1) := by decide +kernel
theorem dX8_solve_34 : decode cX8_solve 34 = .ok (.if_icmp .ge 21, 3) := by decide +kernel
theorem dX8_solve_37 : decode cX8_solve 37 = .ok (.aload_n 2, 1) := by decide +kernel
theorem dX8_solve_38 : decode cX8_solve 38 = .ok (.getfield 198, 3) := by decide +kernel
theorem dX8_solve_41 : decode cX8_solve 41 = .ok (.iload_n 3, 1) := by decide +kernel
theorem dX8_solve_42 : decode cX8_solve 42 = .ok (.aload_n 0, 1) := by decide +kernel
theorem dX8_solve_43 : decode cX8_solve 43 = .ok (.getfield 68, 3) := by decide +kernel
theorem dX8_solve_46 : decode cX8_solve 46 = .ok (.iload_n 3, 1) := by decide +kernel
theorem dX8_solve_47 : decode cX8_solve 47 = .ok (.iaload, 1) := by decide +kernel
theorem dX8_solve_48 : decode cX8_solve 48 = .ok (.iastore, 1) := by decide +kernel
theorem dX8_solve_49 : decode cX8_solve 49 = .ok (.iinc 3 1, 3) := by decide +kernel
theorem dX8_solve_52 : decode cX8_solve 52 = .ok (.goto (-20), 3) := by decide +kernel
theorem dX8_solve_55 : decode cX8_solve 55 = .ok (.aload_n 2, 1) := by decide +kernel
theorem dX8_solve_56 : decode cX8_solve 56 = .ok (.iload_n 1, 1) := by decide +kernel
theorem dX8_solve_57 : decode cX8_solve 57 = .ok (.putfield 199, 3) := by decide +kernel
theorem dX8_solve_60 : decode cX8_solve 60 = .ok (.aload_n 0, 1) := by decide +kernel
theorem dX8_solve_61 : decode cX8_solve 61 = .ok (.getfield 57, 3) := by decide +kernel
theorem dX8_solve_64 : decode cX8_solve 64 = .ok (.aload_n 2, 1) := by decide +kernel
theorem dX8_solve_65 : decode cX8_solve 65 = .ok (.invokevirtual 202, 3) := by decide +kernel
theorem dX8_solve_68 : decode cX8_solve 68 = .ok (.aload_n 0, 1) := by decide +kernel
theorem dX8_solve_69 : decode cX8_solve 69 = .ok (.dup, 1) := by decide +kernel
theorem dX8_solve_70 : decode cX8_solve 70 = .ok (.getfield 132, 3) := by decide +kernel
theorem dX8_solve_73 : decode cX8_solve 73 = .ok (.iconst 1, 1) := by decide +kernel
theorem dX8_solve_74 : decode cX8_solve 74 = .ok (.iadd, 1) := by decide +kernel
theorem dX8_solve_75 : decode cX8_solve 75 = .ok (.putfield 132, 3) := by decide +kernel
theorem dX8_solve_78 : decode cX8_solve 78 = .ok (.aload_n 0, 1) := by decide +kernel
theorem dX8_solve_79 : decode cX8_solve 79 = .ok (.getfield 132, 3) := by decide +kernel
theorem dX8_solve_82 : decode cX8_solve 82 = .ok (.iconst 1, 1) := by decide +kernel
theorem dX8_solve_83 : decode cX8_solve 83 = .ok (.isub, 1) := by decide +kernel
theorem dX8_solve_84 : decode cX8_solve 84 = .ok (.ireturn, 1) := by decide +kernel
theorem dX8_takes_0 : decode cX8_takes 0 = .ok (.aload_n 0, 1) := by decide +kernel
theorem dX8_takes_1 : decode cX8_takes 1 = .ok (.iload_n 1, 1) := by decide +kernel
theorem dX8_takes_2 : decode cX8_takes 2 = .ok (.invokevirtual 206, 3) := by decide +kernel
theorem dX8_takes_5 : decode cX8_takes 5 = .ok (.aload_n 0, 1) := by decide +kernel
theorem dX8_takes_6 : decode cX8_takes 6 = .ok (.iload_n 2, 1) := by decide +kernel
theorem dX8_takes_7 : decode cX8_takes 7 = .ok (.invokevirtual 140, 3) := by decide +kernel
theorem dX8_takes_10 : decode cX8_takes 10 = .ok (.aload_n 0, 1) := by decide +kernel
theorem dX8_takes_11 : decode cX8_takes 11 = .ok (.getfield 73, 3) := by decide +kernel
theorem dX8_takes_14 : decode cX8_takes 14 = .ok (.iload_n 1, 1) := by decide +kernel
theorem dX8_takes_15 : decode cX8_takes 15 = .ok (.aaload, 1) := by decide +kernel
theorem dX8_takes_16 : decode cX8_takes 16 = .ok (.astore 4, 2) := by decide +kernel
theorem dX8_takes_18 : decode cX8_takes 18 = .ok (.aload_n 0, 1) := by decide +kernel
theorem dX8_takes_19 : decode cX8_takes 19 = .ok (.iload_n 3, 1) := by decide +kernel
theorem dX8_takes_20 : decode cX8_takes 20 = .ok (.iconst 1, 1) := by decide +kernel
theorem dX8_takes_21 : decode cX8_takes 21 = .ok (.aload 4, 2) := by decide +kernel
theorem dX8_takes_23 : decode cX8_takes 23 = .ok (.getfield 199, 3) := by decide +kernel
theorem dX8_takes_26 : decode cX8_takes 26 = .ok (.invokevirtual 96, 3) := by decide +kernel
theorem dX8_takes_29 : decode cX8_takes 29 = .ok (.aload 4, 2) := by decide +kernel
theorem dX8_takes_31 : decode cX8_takes 31 = .ok (.iload_n 2, 1) := by decide +kernel
theorem dX8_takes_32 : decode cX8_takes 32 = .ok (.iload_n 3, 1) := by decide +kernel
theorem dX8_takes_33 : decode cX8_takes 33 = .ok (.invokevirtual 209, 3) := by decide +kernel
theorem dX8_takes_36 : decode cX8_takes 36 = .ok (.ireturn, 1) := by decide +kernel
theorem dX8_worth_0 : decode cX8_worth 0 = .ok (.aload_n 0, 1) := by decide +kernel
theorem dX8_worth_1 : decode cX8_worth 1 = .ok (.iload_n 1, 1) := by decide +kernel
theorem dX8_worth_2 : decode cX8_worth 2 = .ok (.invokevirtual 206, 3) := by decide +kernel
theorem dX8_worth_5 : decode cX8_worth 5 = .ok (.aload_n 0, 1) := by decide +kernel
theorem dX8_worth_6 : decode cX8_worth 6 = .ok (.iload_n 2, 1) := by decide +kernel
theorem dX8_worth_7 : decode cX8_worth 7 = .ok (.invokevirtual 140, 3) := by decide +kernel
theorem dX8_worth_10 : decode cX8_worth 10 = .ok (.aload_n 0, 1) := by decide +kernel
theorem dX8_worth_11 : decode cX8_worth 11 = .ok (.getfield 73, 3) := by decide +kernel
theorem dX8_worth_14 : decode cX8_worth 14 = .ok (.iload_n 1, 1) := by decide +kernel
theorem dX8_worth_15 : decode cX8_worth 15 = .ok (.aaload, 1) := by decide +kernel
theorem dX8_worth_16 : decode cX8_worth 16 = .ok (.astore 4, 2) := by decide +kernel
theorem dX8_worth_18 : decode cX8_worth 18 = .ok (.aload_n 0, 1) := by decide +kernel
theorem dX8_worth_19 : decode cX8_worth 19 = .ok (.iload_n 3, 1) := by decide +kernel
theorem dX8_worth_20 : decode cX8_worth 20 = .ok (.iconst 0, 1) := by decide +kernel
theorem dX8_worth_21 : decode cX8_worth 21 = .ok (.aload 4, 2) := by decide +kernel
theorem dX8_worth_23 : decode cX8_worth 23 = .ok (.getfield 199, 3) := by decide +kernel
theorem dX8_worth_26 : decode cX8_worth 26 = .ok (.invokevirtual 96, 3) := by decide +kernel
theorem dX8_worth_29 : decode cX8_worth 29 = .ok (.aload 4, 2) := by decide +kernel
theorem dX8_worth_31 : decode cX8_worth 31 = .ok (.getfield 212, 3) := by decide +kernel
theorem dX8_worth_34 : decode cX8_worth 34 = .ok (.iload_n 3, 1) := by decide +kernel
theorem dX8_worth_35 : decode cX8_worth 35 = .ok (.bipush 100, 2) := by decide +kernel
theorem dX8_worth_37 : decode cX8_worth 37 = .ok (.imul, 1) := by decide +kernel
theorem dX8_worth_38 : decode cX8_worth 38 = .ok (.iload_n 2, 1) := by decide +kernel
theorem dX8_worth_39 : decode cX8_worth 39 = .ok (.iadd, 1) := by decide +kernel
theorem dX8_worth_40 : decode cX8_worth 40 = .ok (.invokestatic 216, 3) := by decide +kernel
theorem dX8_worth_43 : decode cX8_worth 43 = .ok (.lreturn, 1) := by decide +kernel
theorem dX8_brings_0 : decode cX8_brings 0 = .ok (.aload_n 0, 1) := by decide +kernel
theorem dX8_brings_1 : decode cX8_brings 1 = .ok (.iload_n 1, 1) := by decide +kernel
theorem dX8_brings_2 : decode cX8_brings 2 = .ok (.invokevirtual 206, 3) := by decide +kernel
theorem dX8_brings_5 : decode cX8_brings 5 = .ok (.aload_n 0, 1) := by decide +kernel
theorem dX8_brings_6 : decode cX8_brings 6 = .ok (.iload_n 2, 1) := by decide +kernel
theorem dX8_brings_7 : decode cX8_brings 7 = .ok (.invokevirtual 178, 3) := by decide +kernel
theorem dX8_brings_10 : decode cX8_brings 10 = .ok (.aload_n 0, 1) := by decide +kernel
theorem dX8_brings_11 : decode cX8_brings 11 = .ok (.getfield 73, 3) := by decide +kernel
theorem dX8_brings_14 : decode cX8_brings 14 = .ok (.iload_n 1, 1) := by decide +kernel
theorem dX8_brings_15 : decode cX8_brings 15 = .ok (.aaload, 1) := by decide +kernel
theorem dX8_brings_16 : decode cX8_brings 16 = .ok (.getfield 219, 3) := by decide +kernel
theorem dX8_brings_19 : decode cX8_brings 19 = .ok (.iload_n 2, 1) := by decide +kernel
theorem dX8_brings_20 : decode cX8_brings 20 = .ok (.laload, 1) := by decide +kernel
theorem dX8_brings_21 : decode cX8_brings 21 = .ok (.lreturn, 1) := by decide +kernel
theorem dX8_chance_0 : decode cX8_chance 0 = .ok (.aload_n 0, 1) := by decide +kernel
theorem dX8_chance_1 : decode cX8_chance 1 = .ok (.iload_n 1, 1) := by decide +kernel
theorem dX8_chance_2 : decode cX8_chance 2 = .ok (.invokevirtual 206, 3) := by decide +kernel
theorem dX8_chance_5 : decode cX8_chance 5 = .ok (.aload_n 0, 1) := by decide +kernel
theorem dX8_chance_6 : decode cX8_chance 6 = .ok (.getfield 73, 3) := by decide +kernel
theorem dX8_chance_9 : decode cX8_chance 9 = .ok (.iload_n 1, 1) := by decide +kernel
theorem dX8_chance_10 : decode cX8_chance 10 = .ok (.aaload, 1) := by decide +kernel
theorem dX8_chance_11 : decode cX8_chance 11 = .ok (.getfield 222, 3) := by decide +kernel
theorem dX8_chance_14 : decode cX8_chance 14 = .ok (.ireturn, 1) := by decide +kernel
theorem dX8_isWorthHaving_0 : decode cX8_isWorthHaving 0 = .ok (.aload_n 0, 1) := by decide +kernel
theorem dX8_isWorthHaving_1 : decode cX8_isWorthHaving 1 = .ok (.iload_n 1, 1) := by decide +kernel
theorem dX8_isWorthHaving_2 : decode cX8_isWorthHaving 2 = .ok (.invokevirtual 206, 3) := by decide +kernel
theorem dX8_isWorthHaving_5 : decode cX8_isWorthHaving 5 = .ok (.iconst 0, 1) := by decide +kernel
theorem dX8_isWorthHaving_6 : decode cX8_isWorthHaving 6 = .ok (.istore_n 2, 1) := by decide +kernel
theorem dX8_isWorthHaving_7 : decode cX8_isWorthHaving 7 = .ok (.iload_n 2, 1) := by decide +kernel
theorem dX8_isWorthHaving_8 : decode cX8_isWorthHaving 8 = .ok (.aload_n 0, 1) := by decide +kernel
theorem dX8_isWorthHaving_9 : decode cX8_isWorthHaving 9 = .ok (.getfield 132, 3) := by decide +kernel
theorem dX8_isWorthHaving_12 : decode cX8_isWorthHaving 12 = .ok (.if_icmp .ge 30, 3) := by decide +kernel
theorem dX8_isWorthHaving_15 : decode cX8_isWorthHaving 15 = .ok (.aload_n 0, 1) := by decide +kernel
theorem dX8_isWorthHaving_16 : decode cX8_isWorthHaving 16 = .ok (.aload_n 0, 1) := by decide +kernel
theorem dX8_isWorthHaving_17 : decode cX8_isWorthHaving 17 = .ok (.getfield 73, 3) := by decide +kernel
theorem dX8_isWorthHaving_20 : decode cX8_isWorthHaving 20 = .ok (.iload_n 2, 1) := by decide +kernel
theorem dX8_isWorthHaving_21 : decode cX8_isWorthHaving 21 = .ok (.aaload, 1) := by decide +kernel
theorem dX8_isWorthHaving_22 : decode cX8_isWorthHaving 22 = .ok (.aload_n 0, 1) := by decide +kernel
theorem dX8_isWorthHaving_23 : decode cX8_isWorthHaving 23 = .ok (.getfield 73, 3) := by decide +kernel
theorem dX8_isWorthHaving_26 : decode cX8_isWorthHaving 26 = .ok (.iload_n 1, 1) := by decide +kernel
theorem dX8_isWorthHaving_27 : decode cX8_isWorthHaving 27 = .ok (.aaload, 1) := by decide +kernel
theorem dX8_isWorthHaving_28 : decode cX8_isWorthHaving 28 = .ok (.invokevirtual 225, 3) := by decide +kernel
theorem dX8_isWorthHaving_31 : decode cX8_isWorthHaving 31 = .ok (.ifCond .eq 5, 3) := by decide +kernel
theorem dX8_isWorthHaving_34 : decode cX8_isWorthHaving 34 = .ok (.iconst 0, 1) := by decide +kernel
theorem dX8_isWorthHaving_35 : decode cX8_isWorthHaving 35 = .ok (.ireturn, 1) := by decide +kernel
theorem dX8_isWorthHaving_36 : decode cX8_isWorthHaving 36 = .ok (.iinc 2 1, 3) := by decide +kernel
theorem dX8_isWorthHaving_39 : decode cX8_isWorthHaving 39 = .ok (.goto (-32), 3) := by decide +kernel
theorem dX8_isWorthHaving_42 : decode cX8_isWorthHaving 42 = .ok (.iconst 1, 1) := by decide +kernel
theorem dX8_isWorthHaving_43 : decode cX8_isWorthHaving 43 = .ok (.ireturn, 1) := by decide +kernel
theorem dX8_reach_0 : decode cX8_reach 0 = .ok (.aload_n 0, 1) := by decide +kernel
theorem dX8_reach_1 : decode cX8_reach 1 = .ok (.iload_n 1, 1) := by decide +kernel
theorem dX8_reach_2 : decode cX8_reach 2 = .ok (.iconst 0, 1) := by decide +kernel
theorem dX8_reach_3 : decode cX8_reach 3 = .ok (.bipush 30, 2) := by decide +kernel
theorem dX8_reach_5 : decode cX8_reach 5 = .ok (.invokevirtual 96, 3) := by decide +kernel
theorem dX8_reach_8 : decode cX8_reach 8 = .ok (.aload_n 0, 1) := by decide +kernel
theorem dX8_reach_9 : decode cX8_reach 9 = .ok (.invokevirtual 192, 3) := by decide +kernel
theorem dX8_reach_12 : decode cX8_reach 12 = .ok (.aload_n 0, 1) := by decide +kernel
theorem dX8_reach_13 : decode cX8_reach 13 = .ok (.getfield 57, 3) := by decide +kernel
theorem dX8_reach_16 : decode cX8_reach 16 = .ok (.iload_n 1, 1) := by decide +kernel
theorem dX8_reach_17 : decode cX8_reach 17 = .ok (.iload_n 2, 1) := by decide +kernel
theorem dX8_reach_18 : decode cX8_reach 18 = .ok (.invokevirtual 246, 3) := by decide +kernel
theorem dX8_reach_21 : decode cX8_reach 21 = .ok (.ireturn, 1) := by decide +kernel
theorem dX8_append_0 : decode cX8_append 0 = .ok (.bipush 24, 2) := by decide +kernel
theorem dX8_append_2 : decode cX8_append 2 = .ok (.istore_n 2, 1) := by decide +kernel
theorem dX8_append_3 : decode cX8_append 3 = .ok (.iload_n 2, 1) := by decide +kernel
theorem dX8_append_4 : decode cX8_append 4 = .ok (.ifCond .lt 45, 3) := by decide +kernel
theorem dX8_append_7 : decode cX8_append 7 = .ok (.aload_n 0, 1) := by decide +kernel
theorem dX8_append_8 : decode cX8_append 8 = .ok (.getfield 82, 3) := by decide +kernel
theorem dX8_append_11 : decode cX8_append 11 = .ok (.sipush 1500, 3) := by decide +kernel
theorem dX8_append_14 : decode cX8_append 14 = .ok (.if_icmp .ge 29, 3) := by decide +kernel
theorem dX8_append_17 : decode cX8_append 17 = .ok (.aload_n 0, 1) := by decide +kernel
theorem dX8_append_18 : decode cX8_append 18 = .ok (.getfield 9, 3) := by decide +kernel
theorem dX8_append_21 : decode cX8_append 21 = .ok (.aload_n 0, 1) := by decide +kernel
theorem dX8_append_22 : decode cX8_append 22 = .ok (.getfield 82, 3) := by decide +kernel
theorem dX8_append_25 : decode cX8_append 25 = .ok (.iload_n 1, 1) := by decide +kernel
theorem dX8_append_26 : decode cX8_append 26 = .ok (.iload_n 2, 1) := by decide +kernel
theorem dX8_append_27 : decode cX8_append 27 = .ok (.iushr, 1) := by decide +kernel
theorem dX8_append_28 : decode cX8_append 28 = .ok (.sipush 255, 3) := by decide +kernel
theorem dX8_append_31 : decode cX8_append 31 = .ok (.iand, 1) := by decide +kernel
theorem dX8_append_32 : decode cX8_append 32 = .ok (.iastore, 1) := by decide +kernel
theorem dX8_append_33 : decode cX8_append 33 = .ok (.aload_n 0, 1) := by decide +kernel
theorem dX8_append_34 : decode cX8_append 34 = .ok (.dup, 1) := by decide +kernel
theorem dX8_append_35 : decode cX8_append 35 = .ok (.getfield 82, 3) := by decide +kernel
theorem dX8_append_38 : decode cX8_append 38 = .ok (.iconst 1, 1) := by decide +kernel
theorem dX8_append_39 : decode cX8_append 39 = .ok (.iadd, 1) := by decide +kernel
theorem dX8_append_40 : decode cX8_append 40 = .ok (.putfield 82, 3) := by decide +kernel
theorem dX8_append_43 : decode cX8_append 43 = .ok (.iinc 2 (-8), 3) := by decide +kernel
theorem dX8_append_46 : decode cX8_append 46 = .ok (.goto (-43), 3) := by decide +kernel
theorem dX8_append_49 : decode cX8_append 49 = .ok (.return_, 1) := by decide +kernel
theorem dX8_forgetProgram_0 : decode cX8_forgetProgram 0 = .ok (.aload_n 0, 1) := by decide +kernel
theorem dX8_forgetProgram_1 : decode cX8_forgetProgram 1 = .ok (.getfield 30, 3) := by decide +kernel
theorem dX8_forgetProgram_4 : decode cX8_forgetProgram 4 = .ok (.invokevirtual 272, 3) := by decide +kernel
theorem dX8_forgetProgram_7 : decode cX8_forgetProgram 7 = .ok (.aload_n 0, 1) := by decide +kernel
theorem dX8_forgetProgram_8 : decode cX8_forgetProgram 8 = .ok (.getfield 48, 3) := by decide +kernel
theorem dX8_forgetProgram_11 : decode cX8_forgetProgram 11 = .ok (.invokevirtual 275, 3) := by decide +kernel
theorem dX8_forgetProgram_14 : decode cX8_forgetProgram 14 = .ok (.aload_n 0, 1) := by decide +kernel
theorem dX8_forgetProgram_15 : decode cX8_forgetProgram 15 = .ok (.getfield 64, 3) := by decide +kernel
theorem dX8_forgetProgram_18 : decode cX8_forgetProgram 18 = .ok (.invokevirtual 276, 3) := by decide +kernel
theorem dX8_forgetProgram_21 : decode cX8_forgetProgram 21 = .ok (.aload_n 0, 1) := by decide +kernel
theorem dX8_forgetProgram_22 : decode cX8_forgetProgram 22 = .ok (.iconst 0, 1) := by decide +kernel
theorem dX8_forgetProgram_23 : decode cX8_forgetProgram 23 = .ok (.putfield 132, 3) := by decide +kernel
theorem dX8_forgetProgram_26 : decode cX8_forgetProgram 26 = .ok (.aload_n 0, 1) := by decide +kernel
theorem dX8_forgetProgram_27 : decode cX8_forgetProgram 27 = .ok (.getfield 68, 3) := by decide +kernel
theorem dX8_forgetProgram_30 : decode cX8_forgetProgram 30 = .ok (.iconst 0, 1) := by decide +kernel
theorem dX8_forgetProgram_31 : decode cX8_forgetProgram 31 = .ok (.invokestatic 232, 3) := by decide +kernel
theorem dX8_forgetProgram_34 : decode cX8_forgetProgram 34 = .ok (.return_, 1) := by decide +kernel
theorem dX8_isBetter_0 : decode cX8_isBetter 0 = .ok (.iconst 0, 1) := by decide +kernel
theorem dX8_isBetter_1 : decode cX8_isBetter 1 = .ok (.istore_n 3, 1) := by decide +kernel
theorem dX8_isBetter_2 : decode cX8_isBetter 2 = .ok (.iconst 0, 1) := by decide +kernel
theorem dX8_isBetter_3 : decode cX8_isBetter 3 = .ok (.istore 4, 2) := by decide +kernel
theorem dX8_isBetter_5 : decode cX8_isBetter 5 = .ok (.iload 4, 2) := by decide +kernel
theorem dX8_isBetter_7 : decode cX8_isBetter 7 = .ok (.aload_n 0, 1) := by decide +kernel
theorem dX8_isBetter_8 : decode cX8_isBetter 8 = .ok (.getfield 30, 3) := by decide +kernel
theorem dX8_isBetter_11 : decode cX8_isBetter 11 = .ok (.getfield 123, 3) := by decide +kernel
theorem dX8_isBetter_14 : decode cX8_isBetter 14 = .ok (.if_icmp .ge 57, 3) := by decide +kernel
theorem dX8_isBetter_17 : decode cX8_isBetter 17 = .ok (.aload_n 1, 1) := by decide +kernel
theorem dX8_isBetter_18 : decode cX8_isBetter 18 = .ok (.getfield 219, 3) := by decide +kernel
theorem dX8_isBetter_21 : decode cX8_isBetter 21 = .ok (.iload 4, 2) := by decide +kernel
theorem dX8_isBetter_23 : decode cX8_isBetter 23 = .ok (.laload, 1) := by decide +kernel
theorem dX8_isBetter_24 : decode cX8_isBetter 24 = .ok (.aload_n 2, 1) := by decide +kernel
theorem dX8_isBetter_25 : decode cX8_isBetter 25 = .ok (.getfield 219, 3) := by decide +kernel
theorem dX8_isBetter_28 : decode cX8_isBetter 28 = .ok (.iload 4, 2) := by decide +kernel
theorem dX8_isBetter_30 : decode cX8_isBetter 30 = .ok (.laload, 1) := by decide +kernel
theorem dX8_isBetter_31 : decode cX8_isBetter 31 = .ok (.lcmp, 1) := by decide +kernel
theorem dX8_isBetter_32 : decode cX8_isBetter 32 = .ok (.ifCond .ge 5, 3) := by decide +kernel
theorem dX8_isBetter_35 : decode cX8_isBetter 35 = .ok (.iconst 0, 1) := by decide +kernel
theorem dX8_isBetter_36 : decode cX8_isBetter 36 = .ok (.ireturn, 1) := by decide +kernel
theorem dX8_isBetter_37 : decode cX8_isBetter 37 = .ok (.iload_n 3, 1) := by decide +kernel
theorem dX8_isBetter_38 : decode cX8_isBetter 38 = .ok (.ifCond .ne 21, 3) := by decide +kernel
theorem dX8_isBetter_41 : decode cX8_isBetter 41 = .ok (.aload_n 1, 1) := by decide +kernel
theorem dX8_isBetter_42 : decode cX8_isBetter 42 = .ok (.getfield 219, 3) := by decide +kernel
theorem dX8_isBetter_45 : decode cX8_isBetter 45 = .ok (.iload 4, 2) := by decide +kernel
theorem dX8_isBetter_47 : decode cX8_isBetter 47 = .ok (.laload, 1) := by decide +kernel
theorem dX8_isBetter_48 : decode cX8_isBetter 48 = .ok (.aload_n 2, 1) := by decide +kernel
theorem dX8_isBetter_49 : decode cX8_isBetter 49 = .ok (.getfield 219, 3) := by decide +kernel
theorem dX8_isBetter_52 : decode cX8_isBetter 52 = .ok (.iload 4, 2) := by decide +kernel
theorem dX8_isBetter_54 : decode cX8_isBetter 54 = .ok (.laload, 1) := by decide +kernel
theorem dX8_isBetter_55 : decode cX8_isBetter 55 = .ok (.lcmp, 1) := by decide +kernel
theorem dX8_isBetter_56 : decode cX8_isBetter 56 = .ok (.ifCond .le 7, 3) := by decide +kernel
theorem dX8_isBetter_59 : decode cX8_isBetter 59 = .ok (.iconst 1, 1) := by decide +kernel
theorem dX8_isBetter_60 : decode cX8_isBetter 60 = .ok (.goto 4, 3) := by decide +kernel
theorem dX8_isBetter_63 : decode cX8_isBetter 63 = .ok (.iconst 0, 1) := by decide +kernel
theorem dX8_isBetter_64 : decode cX8_isBetter 64 = .ok (.istore_n 3, 1) := by decide +kernel
theorem dX8_isBetter_65 : decode cX8_isBetter 65 = .ok (.iinc 4 1, 3) := by decide +kernel
theorem dX8_isBetter_68 : decode cX8_isBetter 68 = .ok (.goto (-63), 3) := by decide +kernel
theorem dX8_isBetter_71 : decode cX8_isBetter 71 = .ok (.iload_n 3, 1) := by decide +kernel
theorem dX8_isBetter_72 : decode cX8_isBetter 72 = .ok (.ireturn, 1) := by decide +kernel
theorem dX8_checkState_0 : decode cX8_checkState 0 = .ok (.aload_n 0, 1) := by decide +kernel
theorem dX8_checkState_1 : decode cX8_checkState 1 = .ok (.iload_n 1, 1) := by decide +kernel
theorem dX8_checkState_2 : decode cX8_checkState 2 = .ok (.aload_n 0, 1) := by decide +kernel
theorem dX8_checkState_3 : decode cX8_checkState 3 = .ok (.getfield 48, 3) := by decide +kernel
theorem dX8_checkState_6 : decode cX8_checkState 6 = .ok (.getfield 129, 3) := by decide +kernel
theorem dX8_checkState_9 : decode cX8_checkState 9 = .ok (.invokevirtual 157, 3) := by decide +kernel
theorem dX8_checkState_12 : decode cX8_checkState 12 = .ok (.return_, 1) := by decide +kernel
theorem dX8_checkChoice_0 : decode cX8_checkChoice 0 = .ok (.aload_n 0, 1) := by decide +kernel
theorem dX8_checkChoice_1 : decode cX8_checkChoice 1 = .ok (.iload_n 1, 1) := by decide +kernel
theorem dX8_checkChoice_2 : decode cX8_checkChoice 2 = .ok (.invokevirtual 140, 3) := by decide +kernel
theorem dX8_checkChoice_5 : decode cX8_checkChoice 5 = .ok (.aload_n 0, 1) := by decide +kernel
theorem dX8_checkChoice_6 : decode cX8_checkChoice 6 = .ok (.iload_n 2, 1) := by decide +kernel
theorem dX8_checkChoice_7 : decode cX8_checkChoice 7 = .ok (.aload_n 0, 1) := by decide +kernel
theorem dX8_checkChoice_8 : decode cX8_checkChoice 8 = .ok (.getfield 48, 3) := by decide +kernel
theorem dX8_checkChoice_11 : decode cX8_checkChoice 11 = .ok (.getfield 165, 3) := by decide +kernel
theorem dX8_checkChoice_14 : decode cX8_checkChoice 14 = .ok (.iload_n 1, 1) := by decide +kernel
theorem dX8_checkChoice_15 : decode cX8_checkChoice 15 = .ok (.iaload, 1) := by decide +kernel
theorem dX8_checkChoice_16 : decode cX8_checkChoice 16 = .ok (.invokevirtual 157, 3) := by decide +kernel
theorem dX8_checkChoice_19 : decode cX8_checkChoice 19 = .ok (.return_, 1) := by decide +kernel
theorem dX8_checkGain_0 : decode cX8_checkGain 0 = .ok (.aload_n 0, 1) := by decide +kernel
theorem dX8_checkGain_1 : decode cX8_checkGain 1 = .ok (.iload_n 1, 1) := by decide +kernel
theorem dX8_checkGain_2 : decode cX8_checkGain 2 = .ok (.aload_n 0, 1) := by decide +kernel
theorem dX8_checkGain_3 : decode cX8_checkGain 3 = .ok (.getfield 30, 3) := by decide +kernel
theorem dX8_checkGain_6 : decode cX8_checkGain 6 = .ok (.getfield 123, 3) := by decide +kernel
theorem dX8_checkGain_9 : decode cX8_checkGain 9 = .ok (.invokevirtual 157, 3) := by decide +kernel
theorem dX8_checkGain_12 : decode cX8_checkGain 12 = .ok (.return_, 1) := by decide +kernel
theorem dX8_checkStrategy_0 : decode cX8_checkStrategy 0 = .ok (.aload_n 0, 1) := by decide +kernel
theorem dX8_checkStrategy_1 : decode cX8_checkStrategy 1 = .ok (.iload_n 1, 1) := by decide +kernel
theorem dX8_checkStrategy_2 : decode cX8_checkStrategy 2 = .ok (.aload_n 0, 1) := by decide +kernel
theorem dX8_checkStrategy_3 : decode cX8_checkStrategy 3 = .ok (.getfield 132, 3) := by decide +kernel
theorem dX8_checkStrategy_6 : decode cX8_checkStrategy 6 = .ok (.invokevirtual 157, 3) := by decide +kernel
theorem dX8_checkStrategy_9 : decode cX8_checkStrategy 9 = .ok (.return_, 1) := by decide +kernel
theorem dX8_checkIndex_0 : decode cX8_checkIndex 0 = .ok (.iload_n 1, 1) := by decide +kernel
theorem dX8_checkIndex_1 : decode cX8_checkIndex 1 = .ok (.ifCond .lt 8, 3) := by decide +kernel
theorem dX8_checkIndex_4 : decode cX8_checkIndex 4 = .ok (.iload_n 1, 1) := by decide +kernel
theorem dX8_checkIndex_5 : decode cX8_checkIndex 5 = .ok (.iload_n 2, 1) := by decide +kernel
theorem dX8_checkIndex_6 : decode cX8_checkIndex 6 = .ok (.if_icmp .lt 14, 3) := by decide +kernel
theorem dX8_checkIndex_9 : decode cX8_checkIndex 9 = .ok (.new 135, 3) := by decide +kernel
theorem dX8_checkIndex_12 : decode cX8_checkIndex 12 = .ok (.dup, 1) := by decide +kernel
theorem dX8_checkIndex_13 : decode cX8_checkIndex 13 = .ok (.ldc_w 279, 3) := by decide +kernel
theorem dX8_checkIndex_16 : decode cX8_checkIndex 16 = .ok (.invokespecial 139, 3) := by decide +kernel
theorem dX8_checkIndex_19 : decode cX8_checkIndex 19 = .ok (.athrow, 1) := by decide +kernel
theorem dX8_checkIndex_20 : decode cX8_checkIndex 20 = .ok (.return_, 1) := by decide +kernel
theorem dX8_checkRange_0 : decode cX8_checkRange 0 = .ok (.iload_n 1, 1) := by decide +kernel
theorem dX8_checkRange_1 : decode cX8_checkRange 1 = .ok (.iload_n 2, 1) := by decide +kernel
theorem dX8_checkRange_2 : decode cX8_checkRange 2 = .ok (.if_icmp .lt 8, 3) := by decide +kernel
theorem dX8_checkRange_5 : decode cX8_checkRange 5 = .ok (.iload_n 1, 1) := by decide +kernel
theorem dX8_checkRange_6 : decode cX8_checkRange 6 = .ok (.iload_n 3, 1) := by decide +kernel
theorem dX8_checkRange_7 : decode cX8_checkRange 7 = .ok (.if_icmp .le 14, 3) := by decide +kernel
theorem dX8_checkRange_10 : decode cX8_checkRange 10 = .ok (.new 281, 3) := by decide +kernel
theorem dX8_checkRange_13 : decode cX8_checkRange 13 = .ok (.dup, 1) := by decide +kernel
theorem dX8_checkRange_14 : decode cX8_checkRange 14 = .ok (.ldc_w 283, 3) := by decide +kernel
theorem dX8_checkRange_17 : decode cX8_checkRange 17 = .ok (.invokespecial 285, 3) := by decide +kernel
theorem dX8_checkRange_20 : decode cX8_checkRange 20 = .ok (.athrow, 1) := by decide +kernel
theorem dX8_checkRange_21 : decode cX8_checkRange 21 = .ok (.return_, 1) := by decide +kernel
theorem dX8_checkProgram_0 : decode cX8_checkProgram 0 = .ok (.aload_n 0, 1) := by decide +kernel
theorem dX8_checkProgram_1 : decode cX8_checkProgram 1 = .ok (.getfield 48, 3) := by decide +kernel
theorem dX8_checkProgram_4 : decode cX8_checkProgram 4 = .ok (.getfield 129, 3) := by decide +kernel
theorem dX8_checkProgram_7 : decode cX8_checkProgram 7 = .ok (.ifCond .ne 14, 3) := by decide +kernel
theorem dX8_checkProgram_10 : decode cX8_checkProgram 10 = .ok (.new 85, 3) := by decide +kernel
theorem dX8_checkProgram_13 : decode cX8_checkProgram 13 = .ok (.dup, 1) := by decide +kernel
theorem dX8_checkProgram_14 : decode cX8_checkProgram 14 = .ok (.ldc_w 288, 3) := by decide +kernel
theorem dX8_checkProgram_17 : decode cX8_checkProgram 17 = .ok (.invokespecial 89, 3) := by decide +kernel
theorem dX8_checkProgram_20 : decode cX8_checkProgram 20 = .ok (.athrow, 1) := by decide +kernel
theorem dX8_checkProgram_21 : decode cX8_checkProgram 21 = .ok (.return_, 1) := by decide +kernel
theorem dX8_checkRoom_0 : decode cX8_checkRoom 0 = .ok (.iload_n 1, 1) := by decide +kernel
theorem dX8_checkRoom_1 : decode cX8_checkRoom 1 = .ok (.bipush 12, 2) := by decide +kernel
theorem dX8_checkRoom_3 : decode cX8_checkRoom 3 = .ok (.if_icmp .lt 14, 3) := by decide +kernel
theorem dX8_checkRoom_6 : decode cX8_checkRoom 6 = .ok (.new 85, 3) := by decide +kernel
theorem dX8_checkRoom_9 : decode cX8_checkRoom 9 = .ok (.dup, 1) := by decide +kernel
theorem dX8_checkRoom_10 : decode cX8_checkRoom 10 = .ok (.ldc_w 290, 3) := by decide +kernel
theorem dX8_checkRoom_13 : decode cX8_checkRoom 13 = .ok (.invokespecial 89, 3) := by decide +kernel
theorem dX8_checkRoom_16 : decode cX8_checkRoom 16 = .ok (.athrow, 1) := by decide +kernel
theorem dX8_checkRoom_17 : decode cX8_checkRoom 17 = .ok (.return_, 1) := by decide +kernel
theorem dX8_entry_0 : decode cX8_entry 0 = .ok (.iload_n 1, 1) := by decide +kernel
theorem dX8_entry_1 : decode cX8_entry 1 = .ok (.ifCond .lt 15, 3) := by decide +kernel
theorem dX8_entry_4 : decode cX8_entry 4 = .ok (.iload_n 1, 1) := by decide +kernel
theorem dX8_entry_5 : decode cX8_entry 5 = .ok (.aload_n 0, 1) := by decide +kernel
theorem dX8_entry_6 : decode cX8_entry 6 = .ok (.arraylength, 1) := by decide +kernel
theorem dX8_entry_7 : decode cX8_entry 7 = .ok (.if_icmp .ge 9, 3) := by decide +kernel
theorem dX8_entry_10 : decode cX8_entry 10 = .ok (.aload_n 0, 1) := by decide +kernel
theorem dX8_entry_11 : decode cX8_entry 11 = .ok (.iload_n 1, 1) := by decide +kernel
theorem dX8_entry_12 : decode cX8_entry 12 = .ok (.iaload, 1) := by decide +kernel
theorem dX8_entry_13 : decode cX8_entry 13 = .ok (.goto 4, 3) := by decide +kernel
theorem dX8_entry_16 : decode cX8_entry 16 = .ok (.iconst 0, 1) := by decide +kernel
theorem dX8_entry_17 : decode cX8_entry 17 = .ok (.ireturn, 1) := by decide +kernel
theorem dX8_entry__0 : decode cX8_entry_ 0 = .ok (.iload_n 1, 1) := by decide +kernel
theorem dX8_entry__1 : decode cX8_entry_ 1 = .ok (.ifCond .lt 15, 3) := by decide +kernel
theorem dX8_entry__4 : decode cX8_entry_ 4 = .ok (.iload_n 1, 1) := by decide +kernel
theorem dX8_entry__5 : decode cX8_entry_ 5 = .ok (.aload_n 0, 1) := by decide +kernel
theorem dX8_entry__6 : decode cX8_entry_ 6 = .ok (.arraylength, 1) := by decide +kernel
theorem dX8_entry__7 : decode cX8_entry_ 7 = .ok (.if_icmp .ge 9, 3) := by decide +kernel
theorem dX8_entry__10 : decode cX8_entry_ 10 = .ok (.aload_n 0, 1) := by decide +kernel
theorem dX8_entry__11 : decode cX8_entry_ 11 = .ok (.iload_n 1, 1) := by decide +kernel
theorem dX8_entry__12 : decode cX8_entry_ 12 = .ok (.laload, 1) := by decide +kernel
theorem dX8_entry__13 : decode cX8_entry_ 13 = .ok (.goto 4, 3) := by decide +kernel
theorem dX8_entry__16 : decode cX8_entry_ 16 = .ok (.lconst 0, 1) := by decide +kernel
theorem dX8_entry__17 : decode cX8_entry_ 17 = .ok (.lreturn, 1) := by decide +kernel
