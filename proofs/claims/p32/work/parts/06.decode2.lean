theorem dX9_init_0 : decode cX9_init 0 = .ok (.aload_n 0, 1) := by decide +kernel
theorem dX9_init_1 : decode cX9_init 1 = .ok (.invokespecial 1, 3) := by decide +kernel
theorem dX9_init_4 : decode cX9_init 4 = .ok (.aload_n 0, 1) := by decide +kernel
theorem dX9_init_5 : decode cX9_init 5 = .ok (.bipush 100, 2) := by decide +kernel
theorem dX9_init_7 : decode cX9_init 7 = .ok (.iconst 2, 1) := by decide +kernel
theorem dX9_init_8 : decode cX9_init 8 = .ok (.multianewarray 7 2, 4) := by decide +kernel
theorem dX9_init_12 : decode cX9_init 12 = .ok (.putfield 9, 3) := by decide +kernel
theorem dX9_init_15 : decode cX9_init 15 = .ok (.aload_n 0, 1) := by decide +kernel
theorem dX9_init_16 : decode cX9_init 16 = .ok (.iconst 2, 1) := by decide +kernel
theorem dX9_init_17 : decode cX9_init 17 = .ok (.aload_n 1, 1) := by decide +kernel
theorem dX9_init_18 : decode cX9_init 18 = .ok (.iload_n 2, 1) := by decide +kernel
theorem dX9_init_19 : decode cX9_init 19 = .ok (.invokestatic 14, 3) := by decide +kernel
theorem dX9_init_22 : decode cX9_init 22 = .ok (.bipush 20, 2) := by decide +kernel
theorem dX9_init_24 : decode cX9_init 24 = .ok (.invokestatic 20, 3) := by decide +kernel
theorem dX9_init_27 : decode cX9_init 27 = .ok (.iadd, 1) := by decide +kernel
theorem dX9_init_28 : decode cX9_init 28 = .ok (.putfield 24, 3) := by decide +kernel
theorem dX9_init_31 : decode cX9_init 31 = .ok (.aload_n 0, 1) := by decide +kernel
theorem dX9_init_32 : decode cX9_init 32 = .ok (.aload_n 1, 1) := by decide +kernel
theorem dX9_init_33 : decode cX9_init 33 = .ok (.iload_n 2, 1) := by decide +kernel
theorem dX9_init_34 : decode cX9_init 34 = .ok (.invokestatic 14, 3) := by decide +kernel
theorem dX9_init_37 : decode cX9_init 37 = .ok (.iconst 3, 1) := by decide +kernel
theorem dX9_init_38 : decode cX9_init 38 = .ok (.ishr, 1) := by decide +kernel
theorem dX9_init_39 : decode cX9_init 39 = .ok (.aload_n 0, 1) := by decide +kernel
theorem dX9_init_40 : decode cX9_init 40 = .ok (.getfield 24, 3) := by decide +kernel
theorem dX9_init_43 : decode cX9_init 43 = .ok (.iconst 1, 1) := by decide +kernel
theorem dX9_init_44 : decode cX9_init 44 = .ok (.iadd, 1) := by decide +kernel
theorem dX9_init_45 : decode cX9_init 45 = .ok (.invokestatic 20, 3) := by decide +kernel
theorem dX9_init_48 : decode cX9_init 48 = .ok (.putfield 28, 3) := by decide +kernel
theorem dX9_init_51 : decode cX9_init 51 = .ok (.aload_n 0, 1) := by decide +kernel
theorem dX9_init_52 : decode cX9_init 52 = .ok (.iconst 1, 1) := by decide +kernel
theorem dX9_init_53 : decode cX9_init 53 = .ok (.aload_n 1, 1) := by decide +kernel
theorem dX9_init_54 : decode cX9_init 54 = .ok (.iload_n 2, 1) := by decide +kernel
theorem dX9_init_55 : decode cX9_init 55 = .ok (.iconst 1, 1) := by decide +kernel
theorem dX9_init_56 : decode cX9_init 56 = .ok (.iadd, 1) := by decide +kernel
theorem dX9_init_57 : decode cX9_init 57 = .ok (.invokestatic 14, 3) := by decide +kernel
theorem dX9_init_60 : decode cX9_init 60 = .ok (.bipush 97, 2) := by decide +kernel
theorem dX9_init_62 : decode cX9_init 62 = .ok (.invokestatic 20, 3) := by decide +kernel
theorem dX9_init_65 : decode cX9_init 65 = .ok (.iadd, 1) := by decide +kernel
theorem dX9_init_66 : decode cX9_init 66 = .ok (.putfield 31, 3) := by decide +kernel
theorem dX9_init_69 : decode cX9_init 69 = .ok (.aload_n 0, 1) := by decide +kernel
theorem dX9_init_70 : decode cX9_init 70 = .ok (.iconst 1, 1) := by decide +kernel
theorem dX9_init_71 : decode cX9_init 71 = .ok (.aload_n 1, 1) := by decide +kernel
theorem dX9_init_72 : decode cX9_init 72 = .ok (.iload_n 2, 1) := by decide +kernel
theorem dX9_init_73 : decode cX9_init 73 = .ok (.iconst 1, 1) := by decide +kernel
theorem dX9_init_74 : decode cX9_init 74 = .ok (.iadd, 1) := by decide +kernel
theorem dX9_init_75 : decode cX9_init 75 = .ok (.invokestatic 14, 3) := by decide +kernel
theorem dX9_init_78 : decode cX9_init 78 = .ok (.iconst 5, 1) := by decide +kernel
theorem dX9_init_79 : decode cX9_init 79 = .ok (.ishr, 1) := by decide +kernel
theorem dX9_init_80 : decode cX9_init 80 = .ok (.bipush 99, 2) := by decide +kernel
theorem dX9_init_82 : decode cX9_init 82 = .ok (.aload_n 0, 1) := by decide +kernel
theorem dX9_init_83 : decode cX9_init 83 = .ok (.getfield 31, 3) := by decide +kernel
theorem dX9_init_86 : decode cX9_init 86 = .ok (.isub, 1) := by decide +kernel
theorem dX9_init_87 : decode cX9_init 87 = .ok (.invokestatic 20, 3) := by decide +kernel
theorem dX9_init_90 : decode cX9_init 90 = .ok (.iadd, 1) := by decide +kernel
theorem dX9_init_91 : decode cX9_init 91 = .ok (.putfield 34, 3) := by decide +kernel
theorem dX9_init_94 : decode cX9_init 94 = .ok (.aload_n 0, 1) := by decide +kernel
theorem dX9_init_95 : decode cX9_init 95 = .ok (.iconst 1, 1) := by decide +kernel
theorem dX9_init_96 : decode cX9_init 96 = .ok (.aload_n 1, 1) := by decide +kernel
theorem dX9_init_97 : decode cX9_init 97 = .ok (.iload_n 2, 1) := by decide +kernel
theorem dX9_init_98 : decode cX9_init 98 = .ok (.iconst 2, 1) := by decide +kernel
theorem dX9_init_99 : decode cX9_init 99 = .ok (.iadd, 1) := by decide +kernel
theorem dX9_init_100 : decode cX9_init 100 = .ok (.invokestatic 14, 3) := by decide +kernel
theorem dX9_init_103 : decode cX9_init 103 = .ok (.iconst 5, 1) := by decide +kernel
theorem dX9_init_104 : decode cX9_init 104 = .ok (.invokestatic 20, 3) := by decide +kernel
theorem dX9_init_107 : decode cX9_init 107 = .ok (.iadd, 1) := by decide +kernel
theorem dX9_init_108 : decode cX9_init 108 = .ok (.putfield 37, 3) := by decide +kernel
theorem dX9_init_111 : decode cX9_init 111 = .ok (.aload_n 0, 1) := by decide +kernel
theorem dX9_init_112 : decode cX9_init 112 = .ok (.aload_n 1, 1) := by decide +kernel
theorem dX9_init_113 : decode cX9_init 113 = .ok (.iload_n 2, 1) := by decide +kernel
theorem dX9_init_114 : decode cX9_init 114 = .ok (.iconst 2, 1) := by decide +kernel
theorem dX9_init_115 : decode cX9_init 115 = .ok (.iadd, 1) := by decide +kernel
theorem dX9_init_116 : decode cX9_init 116 = .ok (.invokestatic 14, 3) := by decide +kernel
theorem dX9_init_119 : decode cX9_init 119 = .ok (.iconst 3, 1) := by decide +kernel
theorem dX9_init_120 : decode cX9_init 120 = .ok (.ishr, 1) := by decide +kernel
theorem dX9_init_121 : decode cX9_init 121 = .ok (.bipush 40, 2) := by decide +kernel
theorem dX9_init_123 : decode cX9_init 123 = .ok (.invokestatic 20, 3) := by decide +kernel
theorem dX9_init_126 : decode cX9_init 126 = .ok (.bipush 20, 2) := by decide +kernel
theorem dX9_init_128 : decode cX9_init 128 = .ok (.isub, 1) := by decide +kernel
theorem dX9_init_129 : decode cX9_init 129 = .ok (.putfield 40, 3) := by decide +kernel
theorem dX9_init_132 : decode cX9_init 132 = .ok (.aload_n 0, 1) := by decide +kernel
theorem dX9_init_133 : decode cX9_init 133 = .ok (.aload_n 1, 1) := by decide +kernel
theorem dX9_init_134 : decode cX9_init 134 = .ok (.iload_n 2, 1) := by decide +kernel
theorem dX9_init_135 : decode cX9_init 135 = .ok (.iconst 2, 1) := by decide +kernel
theorem dX9_init_136 : decode cX9_init 136 = .ok (.iadd, 1) := by decide +kernel
theorem dX9_init_137 : decode cX9_init 137 = .ok (.invokestatic 14, 3) := by decide +kernel
theorem dX9_init_140 : decode cX9_init 140 = .ok (.bipush 6, 2) := by decide +kernel
theorem dX9_init_142 : decode cX9_init 142 = .ok (.ishr, 1) := by decide +kernel
theorem dX9_init_143 : decode cX9_init 143 = .ok (.bipush 9, 2) := by decide +kernel
theorem dX9_init_145 : decode cX9_init 145 = .ok (.invokestatic 20, 3) := by decide +kernel
theorem dX9_init_148 : decode cX9_init 148 = .ok (.putfield 43, 3) := by decide +kernel
theorem dX9_init_151 : decode cX9_init 151 = .ok (.aload_n 0, 1) := by decide +kernel
theorem dX9_init_152 : decode cX9_init 152 = .ok (.aload_n 1, 1) := by decide +kernel
theorem dX9_init_153 : decode cX9_init 153 = .ok (.iload_n 2, 1) := by decide +kernel
theorem dX9_init_154 : decode cX9_init 154 = .ok (.iconst 3, 1) := by decide +kernel
theorem dX9_init_155 : decode cX9_init 155 = .ok (.iadd, 1) := by decide +kernel
theorem dX9_init_156 : decode cX9_init 156 = .ok (.invokestatic 14, 3) := by decide +kernel
theorem dX9_init_159 : decode cX9_init 159 = .ok (.iconst 3, 1) := by decide +kernel
theorem dX9_init_160 : decode cX9_init 160 = .ok (.invokestatic 20, 3) := by decide +kernel
theorem dX9_init_163 : decode cX9_init 163 = .ok (.ifCond .ne 7, 3) := by decide +kernel
theorem dX9_init_166 : decode cX9_init 166 = .ok (.iconst (-1), 1) := by decide +kernel
theorem dX9_init_167 : decode cX9_init 167 = .ok (.goto 21, 3) := by decide +kernel
theorem dX9_init_170 : decode cX9_init 170 = .ok (.aload_n 1, 1) := by decide +kernel
theorem dX9_init_171 : decode cX9_init 171 = .ok (.iload_n 2, 1) := by decide +kernel
theorem dX9_init_172 : decode cX9_init 172 = .ok (.iconst 3, 1) := by decide +kernel
theorem dX9_init_173 : decode cX9_init 173 = .ok (.iadd, 1) := by decide +kernel
theorem dX9_init_174 : decode cX9_init 174 = .ok (.invokestatic 14, 3) := by decide +kernel
theorem dX9_init_177 : decode cX9_init 177 = .ok (.iconst 3, 1) := by decide +kernel
theorem dX9_init_178 : decode cX9_init 178 = .ok (.ishr, 1) := by decide +kernel
theorem dX9_init_179 : decode cX9_init 179 = .ok (.aload_n 0, 1) := by decide +kernel
theorem dX9_init_180 : decode cX9_init 180 = .ok (.getfield 24, 3) := by decide +kernel
theorem dX9_init_183 : decode cX9_init 183 = .ok (.iconst 1, 1) := by decide +kernel
theorem dX9_init_184 : decode cX9_init 184 = .ok (.iadd, 1) := by decide +kernel
theorem dX9_init_185 : decode cX9_init 185 = .ok (.invokestatic 20, 3) := by decide +kernel
theorem dX9_init_188 : decode cX9_init 188 = .ok (.putfield 46, 3) := by decide +kernel
theorem dX9_init_191 : decode cX9_init 191 = .ok (.aload_n 0, 1) := by decide +kernel
theorem dX9_init_192 : decode cX9_init 192 = .ok (.iconst 1, 1) := by decide +kernel
theorem dX9_init_193 : decode cX9_init 193 = .ok (.aload_n 1, 1) := by decide +kernel
theorem dX9_init_194 : decode cX9_init 194 = .ok (.iload_n 2, 1) := by decide +kernel
theorem dX9_init_195 : decode cX9_init 195 = .ok (.iconst 3, 1) := by decide +kernel
theorem dX9_init_196 : decode cX9_init 196 = .ok (.iadd, 1) := by decide +kernel
theorem dX9_init_197 : decode cX9_init 197 = .ok (.invokestatic 14, 3) := by decide +kernel
theorem dX9_init_200 : decode cX9_init 200 = .ok (.bipush 6, 2) := by decide +kernel
theorem dX9_init_202 : decode cX9_init 202 = .ok (.ishr, 1) := by decide +kernel
theorem dX9_init_203 : decode cX9_init 203 = .ok (.aload_n 0, 1) := by decide +kernel
theorem dX9_init_204 : decode cX9_init 204 = .ok (.getfield 24, 3) := by decide +kernel
theorem dX9_init_207 : decode cX9_init 207 = .ok (.invokestatic 20, 3) := by decide +kernel
theorem dX9_init_210 : decode cX9_init 210 = .ok (.iadd, 1) := by decide +kernel
theorem dX9_init_211 : decode cX9_init 211 = .ok (.putfield 49, 3) := by decide +kernel
theorem dX9_init_214 : decode cX9_init 214 = .ok (.aload_n 0, 1) := by decide +kernel
theorem dX9_init_215 : decode cX9_init 215 = .ok (.invokevirtual 52, 3) := by decide +kernel
theorem dX9_init_218 : decode cX9_init 218 = .ok (.return_, 1) := by decide +kernel
theorem dX9_text_0 : decode cX9_text 0 = .ok (.new 55, 3) := by decide +kernel
theorem dX9_text_3 : decode cX9_text 3 = .ok (.dup, 1) := by decide +kernel
theorem dX9_text_4 : decode cX9_text 4 = .ok (.invokespecial 57, 3) := by decide +kernel
theorem dX9_text_7 : decode cX9_text 7 = .ok (.ldc 58, 2) := by decide +kernel
theorem dX9_text_9 : decode cX9_text 9 = .ok (.invokevirtual 60, 3) := by decide +kernel
theorem dX9_text_12 : decode cX9_text 12 = .ok (.aload_n 0, 1) := by decide +kernel
theorem dX9_text_13 : decode cX9_text 13 = .ok (.getfield 28, 3) := by decide +kernel
theorem dX9_text_16 : decode cX9_text 16 = .ok (.invokevirtual 64, 3) := by decide +kernel
theorem dX9_text_19 : decode cX9_text 19 = .ok (.ldc 67, 2) := by decide +kernel
theorem dX9_text_21 : decode cX9_text 21 = .ok (.invokevirtual 60, 3) := by decide +kernel
theorem dX9_text_24 : decode cX9_text 24 = .ok (.aload_n 0, 1) := by decide +kernel
theorem dX9_text_25 : decode cX9_text 25 = .ok (.getfield 24, 3) := by decide +kernel
theorem dX9_text_28 : decode cX9_text 28 = .ok (.invokevirtual 64, 3) := by decide +kernel
theorem dX9_text_31 : decode cX9_text 31 = .ok (.ldc 69, 2) := by decide +kernel
theorem dX9_text_33 : decode cX9_text 33 = .ok (.invokevirtual 60, 3) := by decide +kernel
theorem dX9_text_36 : decode cX9_text 36 = .ok (.aload_n 0, 1) := by decide +kernel
theorem dX9_text_37 : decode cX9_text 37 = .ok (.getfield 40, 3) := by decide +kernel
theorem dX9_text_40 : decode cX9_text 40 = .ok (.ifCond .ge 29, 3) := by decide +kernel
theorem dX9_text_43 : decode cX9_text 43 = .ok (.new 55, 3) := by decide +kernel
theorem dX9_text_46 : decode cX9_text 46 = .ok (.dup, 1) := by decide +kernel
theorem dX9_text_47 : decode cX9_text 47 = .ok (.invokespecial 57, 3) := by decide +kernel
theorem dX9_text_50 : decode cX9_text 50 = .ok (.ldc 71, 2) := by decide +kernel
theorem dX9_text_52 : decode cX9_text 52 = .ok (.invokevirtual 60, 3) := by decide +kernel
theorem dX9_text_55 : decode cX9_text 55 = .ok (.aload_n 0, 1) := by decide +kernel
theorem dX9_text_56 : decode cX9_text 56 = .ok (.getfield 40, 3) := by decide +kernel
theorem dX9_text_59 : decode cX9_text 59 = .ok (.ineg, 1) := by decide +kernel
theorem dX9_text_60 : decode cX9_text 60 = .ok (.invokevirtual 64, 3) := by decide +kernel
theorem dX9_text_63 : decode cX9_text 63 = .ok (.invokevirtual 73, 3) := by decide +kernel
theorem dX9_text_66 : decode cX9_text 66 = .ok (.goto 25, 3) := by decide +kernel
theorem dX9_text_69 : decode cX9_text 69 = .ok (.new 55, 3) := by decide +kernel
theorem dX9_text_72 : decode cX9_text 72 = .ok (.dup, 1) := by decide +kernel
theorem dX9_text_73 : decode cX9_text 73 = .ok (.invokespecial 57, 3) := by decide +kernel
theorem dX9_text_76 : decode cX9_text 76 = .ok (.ldc 77, 2) := by decide +kernel
theorem dX9_text_78 : decode cX9_text 78 = .ok (.invokevirtual 60, 3) := by decide +kernel
theorem dX9_text_81 : decode cX9_text 81 = .ok (.aload_n 0, 1) := by decide +kernel
theorem dX9_text_82 : decode cX9_text 82 = .ok (.getfield 40, 3) := by decide +kernel
theorem dX9_text_85 : decode cX9_text 85 = .ok (.invokevirtual 64, 3) := by decide +kernel
theorem dX9_text_88 : decode cX9_text 88 = .ok (.invokevirtual 73, 3) := by decide +kernel
theorem dX9_text_91 : decode cX9_text 91 = .ok (.invokevirtual 60, 3) := by decide +kernel
theorem dX9_text_94 : decode cX9_text 94 = .ok (.ldc 79, 2) := by decide +kernel
theorem dX9_text_96 : decode cX9_text 96 = .ok (.invokevirtual 60, 3) := by decide +kernel
theorem dX9_text_99 : decode cX9_text 99 = .ok (.aload_n 0, 1) := by decide +kernel
theorem dX9_text_100 : decode cX9_text 100 = .ok (.getfield 43, 3) := by decide +kernel
theorem dX9_text_103 : decode cX9_text 103 = .ok (.invokevirtual 64, 3) := by decide +kernel
theorem dX9_text_106 : decode cX9_text 106 = .ok (.ldc 81, 2) := by decide +kernel
theorem dX9_text_108 : decode cX9_text 108 = .ok (.invokevirtual 60, 3) := by decide +kernel
theorem dX9_text_111 : decode cX9_text 111 = .ok (.aload_n 0, 1) := by decide +kernel
theorem dX9_text_112 : decode cX9_text 112 = .ok (.getfield 46, 3) := by decide +kernel
theorem dX9_text_115 : decode cX9_text 115 = .ok (.ifCond .ge 8, 3) := by decide +kernel
theorem dX9_text_118 : decode cX9_text 118 = .ok (.ldc 77, 2) := by decide +kernel
theorem dX9_text_120 : decode cX9_text 120 = .ok (.goto 30, 3) := by decide +kernel
theorem dX9_text_123 : decode cX9_text 123 = .ok (.new 55, 3) := by decide +kernel
theorem dX9_text_126 : decode cX9_text 126 = .ok (.dup, 1) := by decide +kernel
theorem dX9_text_127 : decode cX9_text 127 = .ok (.invokespecial 57, 3) := by decide +kernel
theorem dX9_text_130 : decode cX9_text 130 = .ok (.ldc 83, 2) := by decide +kernel
theorem dX9_text_132 : decode cX9_text 132 = .ok (.invokevirtual 60, 3) := by decide +kernel
theorem dX9_text_135 : decode cX9_text 135 = .ok (.aload_n 0, 1) := by decide +kernel
theorem dX9_text_136 : decode cX9_text 136 = .ok (.getfield 46, 3) := by decide +kernel
theorem dX9_text_139 : decode cX9_text 139 = .ok (.invokevirtual 64, 3) := by decide +kernel
theorem dX9_text_142 : decode cX9_text 142 = .ok (.ldc 85, 2) := by decide +kernel
theorem dX9_text_144 : decode cX9_text 144 = .ok (.invokevirtual 60, 3) := by decide +kernel
theorem dX9_text_147 : decode cX9_text 147 = .ok (.invokevirtual 73, 3) := by decide +kernel
theorem dX9_text_150 : decode cX9_text 150 = .ok (.invokevirtual 60, 3) := by decide +kernel
theorem dX9_text_153 : decode cX9_text 153 = .ok (.ldc 87, 2) := by decide +kernel
theorem dX9_text_155 : decode cX9_text 155 = .ok (.invokevirtual 60, 3) := by decide +kernel
theorem dX9_text_158 : decode cX9_text 158 = .ok (.aload_n 0, 1) := by decide +kernel
theorem dX9_text_159 : decode cX9_text 159 = .ok (.getfield 24, 3) := by decide +kernel
theorem dX9_text_162 : decode cX9_text 162 = .ok (.invokevirtual 64, 3) := by decide +kernel
theorem dX9_text_165 : decode cX9_text 165 = .ok (.ldc 89, 2) := by decide +kernel
theorem dX9_text_167 : decode cX9_text 167 = .ok (.invokevirtual 60, 3) := by decide +kernel
theorem dX9_text_170 : decode cX9_text 170 = .ok (.aload_n 0, 1) := by decide +kernel
theorem dX9_text_171 : decode cX9_text 171 = .ok (.getfield 31, 3) := by decide +kernel
theorem dX9_text_174 : decode cX9_text 174 = .ok (.invokevirtual 64, 3) := by decide +kernel
theorem dX9_text_177 : decode cX9_text 177 = .ok (.ldc 91, 2) := by decide +kernel
theorem dX9_text_179 : decode cX9_text 179 = .ok (.invokevirtual 60, 3) := by decide +kernel
theorem dX9_text_182 : decode cX9_text 182 = .ok (.aload_n 0, 1) := by decide +kernel
theorem dX9_text_183 : decode cX9_text 183 = .ok (.getfield 34, 3) := by decide +kernel
theorem dX9_text_186 : decode cX9_text 186 = .ok (.invokevirtual 64, 3) := by decide +kernel
theorem dX9_text_189 : decode cX9_text 189 = .ok (.ldc 93, 2) := by decide +kernel
theorem dX9_text_191 : decode cX9_text 191 = .ok (.invokevirtual 60, 3) := by decide +kernel
theorem dX9_text_194 : decode cX9_text 194 = .ok (.aload_n 0, 1) := by decide +kernel
theorem dX9_text_195 : decode cX9_text 195 = .ok (.getfield 37, 3) := by decide +kernel
theorem dX9_text_198 : decode cX9_text 198 = .ok (.invokevirtual 64, 3) := by decide +kernel
theorem dX9_text_201 : decode cX9_text 201 = .ok (.ldc 95, 2) := by decide +kernel
theorem dX9_text_203 : decode cX9_text 203 = .ok (.invokevirtual 60, 3) := by decide +kernel
theorem dX9_text_206 : decode cX9_text 206 = .ok (.bipush 100, 2) := by decide +kernel
theorem dX9_text_208 : decode cX9_text 208 = .ok (.aload_n 0, 1) := by decide +kernel
theorem dX9_text_209 : decode cX9_text 209 = .ok (.getfield 31, 3) := by decide +kernel
theorem dX9_text_212 : decode cX9_text 212 = .ok (.isub, 1) := by decide +kernel
theorem dX9_text_213 : decode cX9_text 213 = .ok (.aload_n 0, 1) := by decide +kernel
theorem dX9_text_214 : decode cX9_text 214 = .ok (.getfield 34, 3) := by decide +kernel
theorem dX9_text_217 : decode cX9_text 217 = .ok (.isub, 1) := by decide +kernel
theorem dX9_text_218 : decode cX9_text 218 = .ok (.invokevirtual 64, 3) := by decide +kernel
theorem dX9_text_221 : decode cX9_text 221 = .ok (.ldc 97, 2) := by decide +kernel
theorem dX9_text_223 : decode cX9_text 223 = .ok (.invokevirtual 60, 3) := by decide +kernel
theorem dX9_text_226 : decode cX9_text 226 = .ok (.aload_n 0, 1) := by decide +kernel
theorem dX9_text_227 : decode cX9_text 227 = .ok (.getfield 49, 3) := by decide +kernel
theorem dX9_text_230 : decode cX9_text 230 = .ok (.invokevirtual 64, 3) := by decide +kernel
theorem dX9_text_233 : decode cX9_text 233 = .ok (.ldc 99, 2) := by decide +kernel
theorem dX9_text_235 : decode cX9_text 235 = .ok (.invokevirtual 60, 3) := by decide +kernel
theorem dX9_text_238 : decode cX9_text 238 = .ok (.aload_n 0, 1) := by decide +kernel
theorem dX9_text_239 : decode cX9_text 239 = .ok (.getfield 49, 3) := by decide +kernel
theorem dX9_text_242 : decode cX9_text 242 = .ok (.invokevirtual 64, 3) := by decide +kernel
theorem dX9_text_245 : decode cX9_text 245 = .ok (.ldc 101, 2) := by decide +kernel
theorem dX9_text_247 : decode cX9_text 247 = .ok (.invokevirtual 60, 3) := by decide +kernel
theorem dX9_text_250 : decode cX9_text 250 = .ok (.invokevirtual 73, 3) := by decide +kernel
theorem dX9_text_253 : decode cX9_text 253 = .ok (.areturn, 1) := by decide +kernel
theorem dX9_isGoal_0 : decode cX9_isGoal 0 = .ok (.aload_n 0, 1) := by decide +kernel
theorem dX9_isGoal_1 : decode cX9_isGoal 1 = .ok (.getfield 46, 3) := by decide +kernel
theorem dX9_isGoal_4 : decode cX9_isGoal 4 = .ok (.ifCond .lt 34, 3) := by decide +kernel
theorem dX9_isGoal_7 : decode cX9_isGoal 7 = .ok (.aload_n 0, 1) := by decide +kernel
theorem dX9_isGoal_8 : decode cX9_isGoal 8 = .ok (.getfield 9, 3) := by decide +kernel
theorem dX9_isGoal_11 : decode cX9_isGoal 11 = .ok (.iload_n 1, 1) := by decide +kernel
theorem dX9_isGoal_12 : decode cX9_isGoal 12 = .ok (.aaload, 1) := by decide +kernel
theorem dX9_isGoal_13 : decode cX9_isGoal 13 = .ok (.iconst 0, 1) := by decide +kernel
theorem dX9_isGoal_14 : decode cX9_isGoal 14 = .ok (.iaload, 1) := by decide +kernel
theorem dX9_isGoal_15 : decode cX9_isGoal 15 = .ok (.aload_n 0, 1) := by decide +kernel
theorem dX9_isGoal_16 : decode cX9_isGoal 16 = .ok (.getfield 46, 3) := by decide +kernel
theorem dX9_isGoal_19 : decode cX9_isGoal 19 = .ok (.if_icmp .ne 19, 3) := by decide +kernel
theorem dX9_isGoal_22 : decode cX9_isGoal 22 = .ok (.aload_n 0, 1) := by decide +kernel
theorem dX9_isGoal_23 : decode cX9_isGoal 23 = .ok (.getfield 9, 3) := by decide +kernel
theorem dX9_isGoal_26 : decode cX9_isGoal 26 = .ok (.iload_n 1, 1) := by decide +kernel
theorem dX9_isGoal_27 : decode cX9_isGoal 27 = .ok (.aaload, 1) := by decide +kernel
theorem dX9_isGoal_28 : decode cX9_isGoal 28 = .ok (.iconst 1, 1) := by decide +kernel
theorem dX9_isGoal_29 : decode cX9_isGoal 29 = .ok (.iaload, 1) := by decide +kernel
theorem dX9_isGoal_30 : decode cX9_isGoal 30 = .ok (.iconst 3, 1) := by decide +kernel
theorem dX9_isGoal_31 : decode cX9_isGoal 31 = .ok (.if_icmp .eq 7, 3) := by decide +kernel
theorem dX9_isGoal_34 : decode cX9_isGoal 34 = .ok (.iconst 1, 1) := by decide +kernel
theorem dX9_isGoal_35 : decode cX9_isGoal 35 = .ok (.goto 4, 3) := by decide +kernel
theorem dX9_isGoal_38 : decode cX9_isGoal 38 = .ok (.iconst 0, 1) := by decide +kernel
theorem dX9_isGoal_39 : decode cX9_isGoal 39 = .ok (.ireturn, 1) := by decide +kernel
theorem dX9_isEnabled_0 : decode cX9_isEnabled 0 = .ok (.aload_n 0, 1) := by decide +kernel
theorem dX9_isEnabled_1 : decode cX9_isEnabled 1 = .ok (.getfield 9, 3) := by decide +kernel
theorem dX9_isEnabled_4 : decode cX9_isEnabled 4 = .ok (.iload_n 1, 1) := by decide +kernel
theorem dX9_isEnabled_5 : decode cX9_isEnabled 5 = .ok (.aaload, 1) := by decide +kernel
theorem dX9_isEnabled_6 : decode cX9_isEnabled 6 = .ok (.iconst 0, 1) := by decide +kernel
theorem dX9_isEnabled_7 : decode cX9_isEnabled 7 = .ok (.iaload, 1) := by decide +kernel
theorem dX9_isEnabled_8 : decode cX9_isEnabled 8 = .ok (.istore_n 3, 1) := by decide +kernel
theorem dX9_isEnabled_9 : decode cX9_isEnabled 9 = .ok (.aload_n 0, 1) := by decide +kernel
theorem dX9_isEnabled_10 : decode cX9_isEnabled 10 = .ok (.getfield 9, 3) := by decide +kernel
theorem dX9_isEnabled_13 : decode cX9_isEnabled 13 = .ok (.iload_n 1, 1) := by decide +kernel
theorem dX9_isEnabled_14 : decode cX9_isEnabled 14 = .ok (.aaload, 1) := by decide +kernel
theorem dX9_isEnabled_15 : decode cX9_isEnabled 15 = .ok (.iconst 1, 1) := by decide +kernel
theorem dX9_isEnabled_16 : decode cX9_isEnabled 16 = .ok (.iaload, 1) := by decide +kernel
theorem dX9_isEnabled_17 : decode cX9_isEnabled 17 = .ok (.istore 4, 2) := by decide +kernel
theorem dX9_isEnabled_19 : decode cX9_isEnabled 19 = .ok (.aload_n 0, 1) := by decide +kernel
theorem dX9_isEnabled_20 : decode cX9_isEnabled 20 = .ok (.iload_n 1, 1) := by decide +kernel
theorem dX9_isEnabled_21 : decode cX9_isEnabled 21 = .ok (.invokevirtual 103, 3) := by decide +kernel
theorem dX9_isEnabled_24 : decode cX9_isEnabled 24 = .ok (.ifCond .ne 49, 3) := by decide +kernel
theorem dX9_isEnabled_27 : decode cX9_isEnabled 27 = .ok (.iload_n 2, 1) := by decide +kernel
theorem dX9_isEnabled_28 : decode cX9_isEnabled 28 = .ok (.ifCond .ne 14, 3) := by decide +kernel
theorem dX9_isEnabled_31 : decode cX9_isEnabled 31 = .ok (.iload_n 3, 1) := by decide +kernel
theorem dX9_isEnabled_32 : decode cX9_isEnabled 32 = .ok (.aload_n 0, 1) := by decide +kernel
theorem dX9_isEnabled_33 : decode cX9_isEnabled 33 = .ok (.getfield 24, 3) := by decide +kernel
theorem dX9_isEnabled_36 : decode cX9_isEnabled 36 = .ok (.if_icmp .ge 37, 3) := by decide +kernel
theorem dX9_isEnabled_39 : decode cX9_isEnabled 39 = .ok (.goto 30, 3) := by decide +kernel
theorem dX9_isEnabled_42 : decode cX9_isEnabled 42 = .ok (.iload_n 2, 1) := by decide +kernel
theorem dX9_isEnabled_43 : decode cX9_isEnabled 43 = .ok (.iconst 1, 1) := by decide +kernel
theorem dX9_isEnabled_44 : decode cX9_isEnabled 44 = .ok (.if_icmp .ne 11, 3) := by decide +kernel
theorem dX9_isEnabled_47 : decode cX9_isEnabled 47 = .ok (.iload 4, 2) := by decide +kernel
theorem dX9_isEnabled_49 : decode cX9_isEnabled 49 = .ok (.ifCond .le 24, 3) := by decide +kernel
theorem dX9_isEnabled_52 : decode cX9_isEnabled 52 = .ok (.goto 17, 3) := by decide +kernel
theorem dX9_isEnabled_55 : decode cX9_isEnabled 55 = .ok (.iload_n 3, 1) := by decide +kernel
theorem dX9_isEnabled_56 : decode cX9_isEnabled 56 = .ok (.aload_n 0, 1) := by decide +kernel
theorem dX9_isEnabled_57 : decode cX9_isEnabled 57 = .ok (.getfield 49, 3) := by decide +kernel
theorem dX9_isEnabled_60 : decode cX9_isEnabled 60 = .ok (.if_icmp .lt 13, 3) := by decide +kernel
theorem dX9_isEnabled_63 : decode cX9_isEnabled 63 = .ok (.iload 4, 2) := by decide +kernel
theorem dX9_isEnabled_65 : decode cX9_isEnabled 65 = .ok (.iconst 1, 1) := by decide +kernel
theorem dX9_isEnabled_66 : decode cX9_isEnabled 66 = .ok (.if_icmp .eq 7, 3) := by decide +kernel
theorem dX9_isEnabled_69 : decode cX9_isEnabled 69 = .ok (.iconst 1, 1) := by decide +kernel
theorem dX9_isEnabled_70 : decode cX9_isEnabled 70 = .ok (.goto 4, 3) := by decide +kernel
theorem dX9_isEnabled_73 : decode cX9_isEnabled 73 = .ok (.iconst 0, 1) := by decide +kernel
theorem dX9_isEnabled_74 : decode cX9_isEnabled 74 = .ok (.ireturn, 1) := by decide +kernel
theorem dX9_branches_0 : decode cX9_branches 0 = .ok (.iload_n 1, 1) := by decide +kernel
theorem dX9_branches_1 : decode cX9_branches 1 = .ok (.ifCond .ne 7, 3) := by decide +kernel
theorem dX9_branches_4 : decode cX9_branches 4 = .ok (.iconst 3, 1) := by decide +kernel
theorem dX9_branches_5 : decode cX9_branches 5 = .ok (.goto 13, 3) := by decide +kernel
theorem dX9_branches_8 : decode cX9_branches 8 = .ok (.iload_n 1, 1) := by decide +kernel
theorem dX9_branches_9 : decode cX9_branches 9 = .ok (.iconst 1, 1) := by decide +kernel
theorem dX9_branches_10 : decode cX9_branches 10 = .ok (.if_icmp .ne 7, 3) := by decide +kernel
theorem dX9_branches_13 : decode cX9_branches 13 = .ok (.iconst 1, 1) := by decide +kernel
theorem dX9_branches_14 : decode cX9_branches 14 = .ok (.goto 4, 3) := by decide +kernel
theorem dX9_branches_17 : decode cX9_branches 17 = .ok (.iconst 2, 1) := by decide +kernel
theorem dX9_branches_18 : decode cX9_branches 18 = .ok (.ireturn, 1) := by decide +kernel
theorem dX9_target_0 : decode cX9_target 0 = .ok (.aload_n 0, 1) := by decide +kernel
theorem dX9_target_1 : decode cX9_target 1 = .ok (.getfield 9, 3) := by decide +kernel
theorem dX9_target_4 : decode cX9_target 4 = .ok (.iload_n 1, 1) := by decide +kernel
theorem dX9_target_5 : decode cX9_target 5 = .ok (.aaload, 1) := by decide +kernel
theorem dX9_target_6 : decode cX9_target 6 = .ok (.iconst 0, 1) := by decide +kernel
theorem dX9_target_7 : decode cX9_target 7 = .ok (.iaload, 1) := by decide +kernel
theorem dX9_target_8 : decode cX9_target 8 = .ok (.istore 4, 2) := by decide +kernel
theorem dX9_target_10 : decode cX9_target 10 = .ok (.aload_n 0, 1) := by decide +kernel
theorem dX9_target_11 : decode cX9_target 11 = .ok (.getfield 9, 3) := by decide +kernel
theorem dX9_target_14 : decode cX9_target 14 = .ok (.iload_n 1, 1) := by decide +kernel
theorem dX9_target_15 : decode cX9_target 15 = .ok (.aaload, 1) := by decide +kernel
theorem dX9_target_16 : decode cX9_target 16 = .ok (.iconst 1, 1) := by decide +kernel
theorem dX9_target_17 : decode cX9_target 17 = .ok (.iaload, 1) := by decide +kernel
theorem dX9_target_18 : decode cX9_target 18 = .ok (.istore 5, 2) := by decide +kernel
theorem dX9_target_20 : decode cX9_target 20 = .ok (.iload_n 2, 1) := by decide +kernel
theorem dX9_target_21 : decode cX9_target 21 = .ok (.iconst 1, 1) := by decide +kernel
theorem dX9_target_22 : decode cX9_target 22 = .ok (.if_icmp .ne 19, 3) := by decide +kernel
theorem dX9_target_25 : decode cX9_target 25 = .ok (.iconst 2, 1) := by decide +kernel
theorem dX9_target_26 : decode cX9_target 26 = .ok (.newarray .int, 2) := by decide +kernel
theorem dX9_target_28 : decode cX9_target 28 = .ok (.dup, 1) := by decide +kernel
theorem dX9_target_29 : decode cX9_target 29 = .ok (.iconst 0, 1) := by decide +kernel
theorem dX9_target_30 : decode cX9_target 30 = .ok (.iload 4, 2) := by decide +kernel
theorem dX9_target_32 : decode cX9_target 32 = .ok (.iastore, 1) := by decide +kernel
theorem dX9_target_33 : decode cX9_target 33 = .ok (.dup, 1) := by decide +kernel
theorem dX9_target_34 : decode cX9_target 34 = .ok (.iconst 1, 1) := by decide +kernel
theorem dX9_target_35 : decode cX9_target 35 = .ok (.iload 5, 2) := by decide +kernel
theorem dX9_target_37 : decode cX9_target 37 = .ok (.iconst 1, 1) := by decide +kernel
theorem dX9_target_38 : decode cX9_target 38 = .ok (.isub, 1) := by decide +kernel
theorem dX9_target_39 : decode cX9_target 39 = .ok (.iastore, 1) := by decide +kernel
theorem dX9_target_40 : decode cX9_target 40 = .ok (.areturn, 1) := by decide +kernel
theorem dX9_target_41 : decode cX9_target 41 = .ok (.iload_n 2, 1) := by decide +kernel
theorem dX9_target_42 : decode cX9_target 42 = .ok (.iconst 2, 1) := by decide +kernel
theorem dX9_target_43 : decode cX9_target 43 = .ok (.if_icmp .ne 43, 3) := by decide +kernel
theorem dX9_target_46 : decode cX9_target 46 = .ok (.iload_n 3, 1) := by decide +kernel
theorem dX9_target_47 : decode cX9_target 47 = .ok (.ifCond .ne 26, 3) := by decide +kernel
theorem dX9_target_50 : decode cX9_target 50 = .ok (.iconst 2, 1) := by decide +kernel
theorem dX9_target_51 : decode cX9_target 51 = .ok (.newarray .int, 2) := by decide +kernel
theorem dX9_target_53 : decode cX9_target 53 = .ok (.dup, 1) := by decide +kernel
theorem dX9_target_54 : decode cX9_target 54 = .ok (.iconst 0, 1) := by decide +kernel
theorem dX9_target_55 : decode cX9_target 55 = .ok (.iload 4, 2) := by decide +kernel
theorem dX9_target_57 : decode cX9_target 57 = .ok (.aload_n 0, 1) := by decide +kernel
theorem dX9_target_58 : decode cX9_target 58 = .ok (.getfield 49, 3) := by decide +kernel
theorem dX9_target_61 : decode cX9_target 61 = .ok (.isub, 1) := by decide +kernel
theorem dX9_target_62 : decode cX9_target 62 = .ok (.iastore, 1) := by decide +kernel
theorem dX9_target_63 : decode cX9_target 63 = .ok (.dup, 1) := by decide +kernel
theorem dX9_target_64 : decode cX9_target 64 = .ok (.iconst 1, 1) := by decide +kernel
theorem dX9_target_65 : decode cX9_target 65 = .ok (.iload 4, 2) := by decide +kernel
theorem dX9_target_67 : decode cX9_target 67 = .ok (.iconst 4, 1) := by decide +kernel
theorem dX9_target_68 : decode cX9_target 68 = .ok (.irem, 1) := by decide +kernel
theorem dX9_target_69 : decode cX9_target 69 = .ok (.iastore, 1) := by decide +kernel
theorem dX9_target_70 : decode cX9_target 70 = .ok (.goto 15, 3) := by decide +kernel
theorem dX9_target_73 : decode cX9_target 73 = .ok (.iconst 2, 1) := by decide +kernel
theorem dX9_target_74 : decode cX9_target 74 = .ok (.newarray .int, 2) := by decide +kernel
theorem dX9_target_76 : decode cX9_target 76 = .ok (.dup, 1) := by decide +kernel
theorem dX9_target_77 : decode cX9_target 77 = .ok (.iconst 0, 1) := by decide +kernel
theorem dX9_target_78 : decode cX9_target 78 = .ok (.iload 4, 2) := by decide +kernel
theorem dX9_target_80 : decode cX9_target 80 = .ok (.iastore, 1) := by decide +kernel
theorem dX9_target_81 : decode cX9_target 81 = .ok (.dup, 1) := by decide +kernel
theorem dX9_target_82 : decode cX9_target 82 = .ok (.iconst 1, 1) := by decide +kernel
theorem dX9_target_83 : decode cX9_target 83 = .ok (.iconst 3, 1) := by decide +kernel
theorem dX9_target_84 : decode cX9_target 84 = .ok (.iastore, 1) := by decide +kernel
theorem dX9_target_85 : decode cX9_target 85 = .ok (.areturn, 1) := by decide +kernel
theorem dX9_target_86 : decode cX9_target 86 = .ok (.iload_n 3, 1) := by decide +kernel
theorem dX9_target_87 : decode cX9_target 87 = .ok (.ifCond .ne 33, 3) := by decide +kernel
theorem dX9_target_90 : decode cX9_target 90 = .ok (.iconst 2, 1) := by decide +kernel
theorem dX9_target_91 : decode cX9_target 91 = .ok (.newarray .int, 2) := by decide +kernel
theorem dX9_target_93 : decode cX9_target 93 = .ok (.dup, 1) := by decide +kernel
theorem dX9_target_94 : decode cX9_target 94 = .ok (.iconst 0, 1) := by decide +kernel
theorem dX9_target_95 : decode cX9_target 95 = .ok (.iload 4, 2) := by decide +kernel
theorem dX9_target_97 : decode cX9_target 97 = .ok (.iconst 1, 1) := by decide +kernel
theorem dX9_target_98 : decode cX9_target 98 = .ok (.iadd, 1) := by decide +kernel
theorem dX9_target_99 : decode cX9_target 99 = .ok (.iastore, 1) := by decide +kernel
theorem dX9_target_100 : decode cX9_target 100 = .ok (.dup, 1) := by decide +kernel
theorem dX9_target_101 : decode cX9_target 101 = .ok (.iconst 1, 1) := by decide +kernel
theorem dX9_target_102 : decode cX9_target 102 = .ok (.iload 5, 2) := by decide +kernel
theorem dX9_target_104 : decode cX9_target 104 = .ok (.iconst 3, 1) := by decide +kernel
theorem dX9_target_105 : decode cX9_target 105 = .ok (.if_icmp .ge 10, 3) := by decide +kernel
theorem dX9_target_108 : decode cX9_target 108 = .ok (.iload 5, 2) := by decide +kernel
theorem dX9_target_110 : decode cX9_target 110 = .ok (.iconst 1, 1) := by decide +kernel
theorem dX9_target_111 : decode cX9_target 111 = .ok (.iadd, 1) := by decide +kernel
theorem dX9_target_112 : decode cX9_target 112 = .ok (.goto 4, 3) := by decide +kernel
theorem dX9_target_115 : decode cX9_target 115 = .ok (.iconst 3, 1) := by decide +kernel
theorem dX9_target_116 : decode cX9_target 116 = .ok (.iastore, 1) := by decide +kernel
theorem dX9_target_117 : decode cX9_target 117 = .ok (.goto 55, 3) := by decide +kernel
theorem dX9_target_120 : decode cX9_target 120 = .ok (.iload_n 3, 1) := by decide +kernel
theorem dX9_target_121 : decode cX9_target 121 = .ok (.iconst 1, 1) := by decide +kernel
theorem dX9_target_122 : decode cX9_target 122 = .ok (.if_icmp .ne 37, 3) := by decide +kernel
theorem dX9_target_125 : decode cX9_target 125 = .ok (.iconst 2, 1) := by decide +kernel
theorem dX9_target_126 : decode cX9_target 126 = .ok (.newarray .int, 2) := by decide +kernel
theorem dX9_target_128 : decode cX9_target 128 = .ok (.dup, 1) := by decide +kernel
theorem dX9_target_129 : decode cX9_target 129 = .ok (.iconst 0, 1) := by decide +kernel
theorem dX9_target_130 : decode cX9_target 130 = .ok (.iload 4, 2) := by decide +kernel
theorem dX9_target_132 : decode cX9_target 132 = .ok (.aload_n 0, 1) := by decide +kernel
theorem dX9_target_133 : decode cX9_target 133 = .ok (.getfield 37, 3) := by decide +kernel
theorem dX9_target_136 : decode cX9_target 136 = .ok (.if_icmp .le 13, 3) := by decide +kernel
theorem dX9_target_139 : decode cX9_target 139 = .ok (.iload 4, 2) := by decide +kernel
theorem dX9_target_141 : decode cX9_target 141 = .ok (.aload_n 0, 1) := by decide +kernel
theorem dX9_target_142 : decode cX9_target 142 = .ok (.getfield 37, 3) := by decide +kernel
theorem dX9_target_145 : decode cX9_target 145 = .ok (.isub, 1) := by decide +kernel
theorem dX9_target_146 : decode cX9_target 146 = .ok (.goto 4, 3) := by decide +kernel
theorem dX9_target_149 : decode cX9_target 149 = .ok (.iconst 0, 1) := by decide +kernel
theorem dX9_target_150 : decode cX9_target 150 = .ok (.iastore, 1) := by decide +kernel
theorem dX9_target_151 : decode cX9_target 151 = .ok (.dup, 1) := by decide +kernel
theorem dX9_target_152 : decode cX9_target 152 = .ok (.iconst 1, 1) := by decide +kernel
theorem dX9_target_153 : decode cX9_target 153 = .ok (.iload 5, 2) := by decide +kernel
theorem dX9_target_155 : decode cX9_target 155 = .ok (.iastore, 1) := by decide +kernel
theorem dX9_target_156 : decode cX9_target 156 = .ok (.goto 16, 3) := by decide +kernel
theorem dX9_target_159 : decode cX9_target 159 = .ok (.iconst 2, 1) := by decide +kernel
theorem dX9_target_160 : decode cX9_target 160 = .ok (.newarray .int, 2) := by decide +kernel
theorem dX9_target_162 : decode cX9_target 162 = .ok (.dup, 1) := by decide +kernel
theorem dX9_target_163 : decode cX9_target 163 = .ok (.iconst 0, 1) := by decide +kernel
theorem dX9_target_164 : decode cX9_target 164 = .ok (.iload 4, 2) := by decide +kernel
theorem dX9_target_166 : decode cX9_target 166 = .ok (.iastore, 1) := by decide +kernel
theorem dX9_target_167 : decode cX9_target 167 = .ok (.dup, 1) := by decide +kernel
theorem dX9_target_168 : decode cX9_target 168 = .ok (.iconst 1, 1) := by decide +kernel
theorem dX9_target_169 : decode cX9_target 169 = .ok (.iload 5, 2) := by decide +kernel
theorem dX9_target_171 : decode cX9_target 171 = .ok (.iastore, 1) := by decide +kernel
theorem dX9_target_172 : decode cX9_target 172 = .ok (.areturn, 1) := by decide +kernel
theorem dX9_find_0 : decode cX9_find 0 = .ok (.iconst 0, 1) := by decide +kernel
theorem dX9_find_1 : decode cX9_find 1 = .ok (.istore_n 2, 1) := by decide +kernel
theorem dX9_find_2 : decode cX9_find 2 = .ok (.iload_n 2, 1) := by decide +kernel
theorem dX9_find_3 : decode cX9_find 3 = .ok (.aload_n 0, 1) := by decide +kernel
theorem dX9_find_4 : decode cX9_find 4 = .ok (.getfield 107, 3) := by decide +kernel
theorem dX9_find_7 : decode cX9_find 7 = .ok (.if_icmp .ge 39, 3) := by decide +kernel
theorem dX9_find_10 : decode cX9_find 10 = .ok (.aload_n 0, 1) := by decide +kernel
theorem dX9_find_11 : decode cX9_find 11 = .ok (.getfield 9, 3) := by decide +kernel
theorem dX9_find_14 : decode cX9_find 14 = .ok (.iload_n 2, 1) := by decide +kernel
theorem dX9_find_15 : decode cX9_find 15 = .ok (.aaload, 1) := by decide +kernel
theorem dX9_find_16 : decode cX9_find 16 = .ok (.iconst 0, 1) := by decide +kernel
theorem dX9_find_17 : decode cX9_find 17 = .ok (.iaload, 1) := by decide +kernel
theorem dX9_find_18 : decode cX9_find 18 = .ok (.aload_n 1, 1) := by decide +kernel
theorem dX9_find_19 : decode cX9_find 19 = .ok (.iconst 0, 1) := by decide +kernel
theorem dX9_find_20 : decode cX9_find 20 = .ok (.iaload, 1) := by decide +kernel
theorem dX9_find_21 : decode cX9_find 21 = .ok (.if_icmp .ne 19, 3) := by decide +kernel
theorem dX9_find_24 : decode cX9_find 24 = .ok (.aload_n 0, 1) := by decide +kernel
theorem dX9_find_25 : decode cX9_find 25 = .ok (.getfield 9, 3) := by decide +kernel
theorem dX9_find_28 : decode cX9_find 28 = .ok (.iload_n 2, 1) := by decide +kernel
theorem dX9_find_29 : decode cX9_find 29 = .ok (.aaload, 1) := by decide +kernel
theorem dX9_find_30 : decode cX9_find 30 = .ok (.iconst 1, 1) := by decide +kernel
theorem dX9_find_31 : decode cX9_find 31 = .ok (.iaload, 1) := by decide +kernel
theorem dX9_find_32 : decode cX9_find 32 = .ok (.aload_n 1, 1) := by decide +kernel
theorem dX9_find_33 : decode cX9_find 33 = .ok (.iconst 1, 1) := by decide +kernel
theorem dX9_find_34 : decode cX9_find 34 = .ok (.iaload, 1) := by decide +kernel
theorem dX9_find_35 : decode cX9_find 35 = .ok (.if_icmp .ne 5, 3) := by decide +kernel
theorem dX9_find_38 : decode cX9_find 38 = .ok (.iload_n 2, 1) := by decide +kernel
theorem dX9_find_39 : decode cX9_find 39 = .ok (.ireturn, 1) := by decide +kernel
theorem dX9_find_40 : decode cX9_find 40 = .ok (.iinc 2 1, 3) := by decide +kernel
theorem dX9_find_43 : decode cX9_find 43 = .ok (.goto (-41), 3) := by decide +kernel
theorem dX9_find_46 : decode cX9_find 46 = .ok (.aload_n 0, 1) := by decide +kernel
theorem dX9_find_47 : decode cX9_find 47 = .ok (.getfield 9, 3) := by decide +kernel
theorem dX9_find_50 : decode cX9_find 50 = .ok (.aload_n 0, 1) := by decide +kernel
theorem dX9_find_51 : decode cX9_find 51 = .ok (.getfield 107, 3) := by decide +kernel
theorem dX9_find_54 : decode cX9_find 54 = .ok (.aload_n 1, 1) := by decide +kernel
theorem dX9_find_55 : decode cX9_find 55 = .ok (.aastore, 1) := by decide +kernel
theorem dX9_find_56 : decode cX9_find 56 = .ok (.aload_n 0, 1) := by decide +kernel
theorem dX9_find_57 : decode cX9_find 57 = .ok (.dup, 1) := by decide +kernel
theorem dX9_find_58 : decode cX9_find 58 = .ok (.getfield 107, 3) := by decide +kernel
theorem dX9_find_61 : decode cX9_find 61 = .ok (.iconst 1, 1) := by decide +kernel
theorem dX9_find_62 : decode cX9_find 62 = .ok (.iadd, 1) := by decide +kernel
theorem dX9_find_63 : decode cX9_find 63 = .ok (.putfield 107, 3) := by decide +kernel
theorem dX9_find_66 : decode cX9_find 66 = .ok (.aload_n 0, 1) := by decide +kernel
theorem dX9_find_67 : decode cX9_find 67 = .ok (.getfield 107, 3) := by decide +kernel
theorem dX9_find_70 : decode cX9_find 70 = .ok (.iconst 1, 1) := by decide +kernel
theorem dX9_find_71 : decode cX9_find 71 = .ok (.isub, 1) := by decide +kernel
theorem dX9_find_72 : decode cX9_find 72 = .ok (.ireturn, 1) := by decide +kernel
theorem dX9_explore_0 : decode cX9_explore 0 = .ok (.aload_n 0, 1) := by decide +kernel
theorem dX9_explore_1 : decode cX9_explore 1 = .ok (.iconst 2, 1) := by decide +kernel
theorem dX9_explore_2 : decode cX9_explore 2 = .ok (.newarray .int, 2) := by decide +kernel
theorem dX9_explore_4 : decode cX9_explore 4 = .ok (.dup, 1) := by decide +kernel
theorem dX9_explore_5 : decode cX9_explore 5 = .ok (.iconst 0, 1) := by decide +kernel
theorem dX9_explore_6 : decode cX9_explore 6 = .ok (.aload_n 0, 1) := by decide +kernel
theorem dX9_explore_7 : decode cX9_explore 7 = .ok (.getfield 28, 3) := by decide +kernel
theorem dX9_explore_10 : decode cX9_explore 10 = .ok (.iastore, 1) := by decide +kernel
theorem dX9_explore_11 : decode cX9_explore 11 = .ok (.dup, 1) := by decide +kernel
theorem dX9_explore_12 : decode cX9_explore 12 = .ok (.iconst 1, 1) := by decide +kernel
theorem dX9_explore_13 : decode cX9_explore 13 = .ok (.iconst 0, 1) := by decide +kernel
theorem dX9_explore_14 : decode cX9_explore 14 = .ok (.iastore, 1) := by decide +kernel
theorem dX9_explore_15 : decode cX9_explore 15 = .ok (.invokevirtual 110, 3) := by decide +kernel
theorem dX9_explore_18 : decode cX9_explore 18 = .ok (.pop, 1) := by decide +kernel
theorem dX9_explore_19 : decode cX9_explore 19 = .ok (.iconst 0, 1) := by decide +kernel
theorem dX9_explore_20 : decode cX9_explore 20 = .ok (.istore_n 1, 1) := by decide +kernel
theorem dX9_explore_21 : decode cX9_explore 21 = .ok (.iload_n 1, 1) := by decide +kernel
theorem dX9_explore_22 : decode cX9_explore 22 = .ok (.aload_n 0, 1) := by decide +kernel
theorem dX9_explore_23 : decode cX9_explore 23 = .ok (.getfield 107, 3) := by decide +kernel
theorem dX9_explore_26 : decode cX9_explore 26 = .ok (.if_icmp .ge 60, 3) := by decide +kernel
theorem dX9_explore_29 : decode cX9_explore 29 = .ok (.iconst 0, 1) := by decide +kernel
theorem dX9_explore_30 : decode cX9_explore 30 = .ok (.istore_n 2, 1) := by decide +kernel
theorem dX9_explore_31 : decode cX9_explore 31 = .ok (.iload_n 2, 1) := by decide +kernel
theorem dX9_explore_32 : decode cX9_explore 32 = .ok (.iconst 3, 1) := by decide +kernel
theorem dX9_explore_33 : decode cX9_explore 33 = .ok (.if_icmp .ge 47, 3) := by decide +kernel
theorem dX9_explore_36 : decode cX9_explore 36 = .ok (.iconst 0, 1) := by decide +kernel
theorem dX9_explore_37 : decode cX9_explore 37 = .ok (.istore_n 3, 1) := by decide +kernel
theorem dX9_explore_38 : decode cX9_explore 38 = .ok (.iload_n 3, 1) := by decide +kernel
theorem dX9_explore_39 : decode cX9_explore 39 = .ok (.aload_n 0, 1) := by decide +kernel
theorem dX9_explore_40 : decode cX9_explore 40 = .ok (.iload_n 2, 1) := by decide +kernel
theorem dX9_explore_41 : decode cX9_explore 41 = .ok (.invokevirtual 114, 3) := by decide +kernel
theorem dX9_explore_44 : decode cX9_explore 44 = .ok (.if_icmp .ge 30, 3) := by decide +kernel
theorem dX9_explore_47 : decode cX9_explore 47 = .ok (.aload_n 0, 1) := by decide +kernel
theorem dX9_explore_48 : decode cX9_explore 48 = .ok (.iload_n 1, 1) := by decide +kernel
theorem dX9_explore_49 : decode cX9_explore 49 = .ok (.iload_n 2, 1) := by decide +kernel
theorem dX9_explore_50 : decode cX9_explore 50 = .ok (.invokevirtual 118, 3) := by decide +kernel
theorem dX9_explore_53 : decode cX9_explore 53 = .ok (.ifCond .eq 21, 3) := by decide +kernel
theorem dX9_explore_56 : decode cX9_explore 56 = .ok (.aload_n 0, 1) := by decide +kernel
theorem dX9_explore_57 : decode cX9_explore 57 = .ok (.aload_n 0, 1) := by decide +kernel
theorem dX9_explore_58 : decode cX9_explore 58 = .ok (.iload_n 1, 1) := by decide +kernel
theorem dX9_explore_59 : decode cX9_explore 59 = .ok (.iload_n 2, 1) := by decide +kernel
theorem dX9_explore_60 : decode cX9_explore 60 = .ok (.iload_n 3, 1) := by decide +kernel
theorem dX9_explore_61 : decode cX9_explore 61 = .ok (.invokevirtual 122, 3) := by decide +kernel
theorem dX9_explore_64 : decode cX9_explore 64 = .ok (.invokevirtual 110, 3) := by decide +kernel
theorem dX9_explore_67 : decode cX9_explore 67 = .ok (.pop, 1) := by decide +kernel
theorem dX9_explore_68 : decode cX9_explore 68 = .ok (.iinc 3 1, 3) := by decide +kernel
theorem dX9_explore_71 : decode cX9_explore 71 = .ok (.goto (-33), 3) := by decide +kernel
theorem dX9_explore_74 : decode cX9_explore 74 = .ok (.iinc 2 1, 3) := by decide +kernel
theorem dX9_explore_77 : decode cX9_explore 77 = .ok (.goto (-46), 3) := by decide +kernel
theorem dX9_explore_80 : decode cX9_explore 80 = .ok (.iinc 1 1, 3) := by decide +kernel
theorem dX9_explore_83 : decode cX9_explore 83 = .ok (.goto (-62), 3) := by decide +kernel
theorem dX9_explore_86 : decode cX9_explore 86 = .ok (.return_, 1) := by decide +kernel
