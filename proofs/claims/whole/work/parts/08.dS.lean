theorem dS_init_0 : decode cS_init 0 = .ok (.aload_n 0, 1) := by decide +kernel
theorem dS_init_1 : decode cS_init 1 = .ok (.invokespecial 1, 3) := by decide +kernel
theorem dS_init_4 : decode cS_init 4 = .ok (.aload_n 0, 1) := by decide +kernel
theorem dS_init_5 : decode cS_init 5 = .ok (.iconst 2, 1) := by decide +kernel
theorem dS_init_6 : decode cS_init 6 = .ok (.newarray .long, 2) := by decide +kernel
theorem dS_init_8 : decode cS_init 8 = .ok (.putfield 7, 3) := by decide +kernel
theorem dS_init_11 : decode cS_init 11 = .ok (.aload_n 0, 1) := by decide +kernel
theorem dS_init_12 : decode cS_init 12 = .ok (.iconst 2, 1) := by decide +kernel
theorem dS_init_13 : decode cS_init 13 = .ok (.newarray .long, 2) := by decide +kernel
theorem dS_init_15 : decode cS_init 15 = .ok (.putfield 13, 3) := by decide +kernel
theorem dS_init_18 : decode cS_init 18 = .ok (.aload_n 0, 1) := by decide +kernel
theorem dS_init_19 : decode cS_init 19 = .ok (.iconst 2, 1) := by decide +kernel
theorem dS_init_20 : decode cS_init 20 = .ok (.newarray .boolean, 2) := by decide +kernel
theorem dS_init_22 : decode cS_init 22 = .ok (.putfield 16, 3) := by decide +kernel
theorem dS_init_25 : decode cS_init 25 = .ok (.return_, 1) := by decide +kernel
theorem dS_reset_0 : decode cS_reset 0 = .ok (.aload_n 0, 1) := by decide +kernel
theorem dS_reset_1 : decode cS_reset 1 = .ok (.getfield 13, 3) := by decide +kernel
theorem dS_reset_4 : decode cS_reset 4 = .ok (.iconst 0, 1) := by decide +kernel
theorem dS_reset_5 : decode cS_reset 5 = .ok (.lconst 0, 1) := by decide +kernel
theorem dS_reset_6 : decode cS_reset 6 = .ok (.lastore, 1) := by decide +kernel
theorem dS_reset_7 : decode cS_reset 7 = .ok (.aload_n 0, 1) := by decide +kernel
theorem dS_reset_8 : decode cS_reset 8 = .ok (.getfield 13, 3) := by decide +kernel
theorem dS_reset_11 : decode cS_reset 11 = .ok (.iconst 1, 1) := by decide +kernel
theorem dS_reset_12 : decode cS_reset 12 = .ok (.lconst 0, 1) := by decide +kernel
theorem dS_reset_13 : decode cS_reset 13 = .ok (.lastore, 1) := by decide +kernel
theorem dS_reset_14 : decode cS_reset 14 = .ok (.return_, 1) := by decide +kernel
theorem dS_narrow_0 : decode cS_narrow 0 = .ok (.lload_n 1, 1) := by decide +kernel
theorem dS_narrow_1 : decode cS_narrow 1 = .ok (.lconst 0, 1) := by decide +kernel
theorem dS_narrow_2 : decode cS_narrow 2 = .ok (.lcmp, 1) := by decide +kernel
theorem dS_narrow_3 : decode cS_narrow 3 = .ok (.ifCond .ne 26, 3) := by decide +kernel
theorem dS_narrow_6 : decode cS_narrow 6 = .ok (.lload_n 3, 1) := by decide +kernel
theorem dS_narrow_7 : decode cS_narrow 7 = .ok (.lconst 0, 1) := by decide +kernel
theorem dS_narrow_8 : decode cS_narrow 8 = .ok (.lcmp, 1) := by decide +kernel
theorem dS_narrow_9 : decode cS_narrow 9 = .ok (.ifCond .gt 14, 3) := by decide +kernel
theorem dS_narrow_12 : decode cS_narrow 12 = .ok (.lload_n 3, 1) := by decide +kernel
theorem dS_narrow_13 : decode cS_narrow 13 = .ok (.lconst 0, 1) := by decide +kernel
theorem dS_narrow_14 : decode cS_narrow 14 = .ok (.lcmp, 1) := by decide +kernel
theorem dS_narrow_15 : decode cS_narrow 15 = .ok (.ifCond .ne 12, 3) := by decide +kernel
theorem dS_narrow_18 : decode cS_narrow 18 = .ok (.iload 5, 2) := by decide +kernel
theorem dS_narrow_20 : decode cS_narrow 20 = .ok (.ifCond .ne 7, 3) := by decide +kernel
theorem dS_narrow_23 : decode cS_narrow 23 = .ok (.iconst 1, 1) := by decide +kernel
theorem dS_narrow_24 : decode cS_narrow 24 = .ok (.goto 4, 3) := by decide +kernel
theorem dS_narrow_27 : decode cS_narrow 27 = .ok (.iconst 0, 1) := by decide +kernel
theorem dS_narrow_28 : decode cS_narrow 28 = .ok (.ireturn, 1) := by decide +kernel
theorem dS_narrow_29 : decode cS_narrow 29 = .ok (.lload_n 1, 1) := by decide +kernel
theorem dS_narrow_30 : decode cS_narrow 30 = .ok (.lconst 0, 1) := by decide +kernel
theorem dS_narrow_31 : decode cS_narrow 31 = .ok (.lcmp, 1) := by decide +kernel
theorem dS_narrow_32 : decode cS_narrow 32 = .ok (.ifCond .le 7, 3) := by decide +kernel
theorem dS_narrow_35 : decode cS_narrow 35 = .ok (.iconst 0, 1) := by decide +kernel
theorem dS_narrow_36 : decode cS_narrow 36 = .ok (.goto 4, 3) := by decide +kernel
theorem dS_narrow_39 : decode cS_narrow 39 = .ok (.iconst 1, 1) := by decide +kernel
theorem dS_narrow_40 : decode cS_narrow 40 = .ok (.istore 6, 2) := by decide +kernel
theorem dS_narrow_42 : decode cS_narrow 42 = .ok (.lload_n 1, 1) := by decide +kernel
theorem dS_narrow_43 : decode cS_narrow 43 = .ok (.lconst 0, 1) := by decide +kernel
theorem dS_narrow_44 : decode cS_narrow 44 = .ok (.lcmp, 1) := by decide +kernel
theorem dS_narrow_45 : decode cS_narrow 45 = .ok (.ifCond .le 7, 3) := by decide +kernel
theorem dS_narrow_48 : decode cS_narrow 48 = .ok (.lload_n 1, 1) := by decide +kernel
theorem dS_narrow_49 : decode cS_narrow 49 = .ok (.goto 5, 3) := by decide +kernel
theorem dS_narrow_52 : decode cS_narrow 52 = .ok (.lload_n 1, 1) := by decide +kernel
theorem dS_narrow_53 : decode cS_narrow 53 = .ok (.lneg, 1) := by decide +kernel
theorem dS_narrow_54 : decode cS_narrow 54 = .ok (.lstore 7, 2) := by decide +kernel
theorem dS_narrow_56 : decode cS_narrow 56 = .ok (.lload_n 3, 1) := by decide +kernel
theorem dS_narrow_57 : decode cS_narrow 57 = .ok (.aload_n 0, 1) := by decide +kernel
theorem dS_narrow_58 : decode cS_narrow 58 = .ok (.getfield 13, 3) := by decide +kernel
theorem dS_narrow_61 : decode cS_narrow 61 = .ok (.iload 6, 2) := by decide +kernel
theorem dS_narrow_63 : decode cS_narrow 63 = .ok (.laload, 1) := by decide +kernel
theorem dS_narrow_64 : decode cS_narrow 64 = .ok (.lmul, 1) := by decide +kernel
theorem dS_narrow_65 : decode cS_narrow 65 = .ok (.lstore 9, 2) := by decide +kernel
theorem dS_narrow_67 : decode cS_narrow 67 = .ok (.aload_n 0, 1) := by decide +kernel
theorem dS_narrow_68 : decode cS_narrow 68 = .ok (.getfield 7, 3) := by decide +kernel
theorem dS_narrow_71 : decode cS_narrow 71 = .ok (.iload 6, 2) := by decide +kernel
theorem dS_narrow_73 : decode cS_narrow 73 = .ok (.laload, 1) := by decide +kernel
theorem dS_narrow_74 : decode cS_narrow 74 = .ok (.lload 7, 2) := by decide +kernel
theorem dS_narrow_76 : decode cS_narrow 76 = .ok (.lmul, 1) := by decide +kernel
theorem dS_narrow_77 : decode cS_narrow 77 = .ok (.lstore 11, 2) := by decide +kernel
theorem dS_narrow_79 : decode cS_narrow 79 = .ok (.aload_n 0, 1) := by decide +kernel
theorem dS_narrow_80 : decode cS_narrow 80 = .ok (.getfield 13, 3) := by decide +kernel
theorem dS_narrow_83 : decode cS_narrow 83 = .ok (.iload 6, 2) := by decide +kernel
theorem dS_narrow_85 : decode cS_narrow 85 = .ok (.laload, 1) := by decide +kernel
theorem dS_narrow_86 : decode cS_narrow 86 = .ok (.lconst 0, 1) := by decide +kernel
theorem dS_narrow_87 : decode cS_narrow 87 = .ok (.lcmp, 1) := by decide +kernel
theorem dS_narrow_88 : decode cS_narrow 88 = .ok (.ifCond .eq 24, 3) := by decide +kernel
theorem dS_narrow_91 : decode cS_narrow 91 = .ok (.lload 9, 2) := by decide +kernel
theorem dS_narrow_93 : decode cS_narrow 93 = .ok (.lload 11, 2) := by decide +kernel
theorem dS_narrow_95 : decode cS_narrow 95 = .ok (.lcmp, 1) := by decide +kernel
theorem dS_narrow_96 : decode cS_narrow 96 = .ok (.ifCond .lt 16, 3) := by decide +kernel
theorem dS_narrow_99 : decode cS_narrow 99 = .ok (.lload 9, 2) := by decide +kernel
theorem dS_narrow_101 : decode cS_narrow 101 = .ok (.lload 11, 2) := by decide +kernel
theorem dS_narrow_103 : decode cS_narrow 103 = .ok (.lcmp, 1) := by decide +kernel
theorem dS_narrow_104 : decode cS_narrow 104 = .ok (.ifCond .ne 34, 3) := by decide +kernel
theorem dS_narrow_107 : decode cS_narrow 107 = .ok (.iload 5, 2) := by decide +kernel
theorem dS_narrow_109 : decode cS_narrow 109 = .ok (.ifCond .eq 29, 3) := by decide +kernel
theorem dS_narrow_112 : decode cS_narrow 112 = .ok (.aload_n 0, 1) := by decide +kernel
theorem dS_narrow_113 : decode cS_narrow 113 = .ok (.getfield 7, 3) := by decide +kernel
theorem dS_narrow_116 : decode cS_narrow 116 = .ok (.iload 6, 2) := by decide +kernel
theorem dS_narrow_118 : decode cS_narrow 118 = .ok (.lload_n 3, 1) := by decide +kernel
theorem dS_narrow_119 : decode cS_narrow 119 = .ok (.lastore, 1) := by decide +kernel
theorem dS_narrow_120 : decode cS_narrow 120 = .ok (.aload_n 0, 1) := by decide +kernel
theorem dS_narrow_121 : decode cS_narrow 121 = .ok (.getfield 13, 3) := by decide +kernel
theorem dS_narrow_124 : decode cS_narrow 124 = .ok (.iload 6, 2) := by decide +kernel
theorem dS_narrow_126 : decode cS_narrow 126 = .ok (.lload 7, 2) := by decide +kernel
theorem dS_narrow_128 : decode cS_narrow 128 = .ok (.lastore, 1) := by decide +kernel
theorem dS_narrow_129 : decode cS_narrow 129 = .ok (.aload_n 0, 1) := by decide +kernel
theorem dS_narrow_130 : decode cS_narrow 130 = .ok (.getfield 16, 3) := by decide +kernel
theorem dS_narrow_133 : decode cS_narrow 133 = .ok (.iload 6, 2) := by decide +kernel
theorem dS_narrow_135 : decode cS_narrow 135 = .ok (.iload 5, 2) := by decide +kernel
theorem dS_narrow_137 : decode cS_narrow 137 = .ok (.bastore, 1) := by decide +kernel
theorem dS_narrow_138 : decode cS_narrow 138 = .ok (.aload_n 0, 1) := by decide +kernel
theorem dS_narrow_139 : decode cS_narrow 139 = .ok (.getfield 13, 3) := by decide +kernel
theorem dS_narrow_142 : decode cS_narrow 142 = .ok (.iconst 0, 1) := by decide +kernel
theorem dS_narrow_143 : decode cS_narrow 143 = .ok (.laload, 1) := by decide +kernel
theorem dS_narrow_144 : decode cS_narrow 144 = .ok (.lconst 0, 1) := by decide +kernel
theorem dS_narrow_145 : decode cS_narrow 145 = .ok (.lcmp, 1) := by decide +kernel
theorem dS_narrow_146 : decode cS_narrow 146 = .ok (.ifCond .eq 14, 3) := by decide +kernel
theorem dS_narrow_149 : decode cS_narrow 149 = .ok (.aload_n 0, 1) := by decide +kernel
theorem dS_narrow_150 : decode cS_narrow 150 = .ok (.getfield 13, 3) := by decide +kernel
theorem dS_narrow_153 : decode cS_narrow 153 = .ok (.iconst 1, 1) := by decide +kernel
theorem dS_narrow_154 : decode cS_narrow 154 = .ok (.laload, 1) := by decide +kernel
theorem dS_narrow_155 : decode cS_narrow 155 = .ok (.lconst 0, 1) := by decide +kernel
theorem dS_narrow_156 : decode cS_narrow 156 = .ok (.lcmp, 1) := by decide +kernel
theorem dS_narrow_157 : decode cS_narrow 157 = .ok (.ifCond .ne 5, 3) := by decide +kernel
theorem dS_narrow_160 : decode cS_narrow 160 = .ok (.iconst 1, 1) := by decide +kernel
theorem dS_narrow_161 : decode cS_narrow 161 = .ok (.ireturn, 1) := by decide +kernel
theorem dS_narrow_162 : decode cS_narrow 162 = .ok (.aload_n 0, 1) := by decide +kernel
theorem dS_narrow_163 : decode cS_narrow 163 = .ok (.getfield 7, 3) := by decide +kernel
theorem dS_narrow_166 : decode cS_narrow 166 = .ok (.iconst 0, 1) := by decide +kernel
theorem dS_narrow_167 : decode cS_narrow 167 = .ok (.laload, 1) := by decide +kernel
theorem dS_narrow_168 : decode cS_narrow 168 = .ok (.aload_n 0, 1) := by decide +kernel
theorem dS_narrow_169 : decode cS_narrow 169 = .ok (.getfield 13, 3) := by decide +kernel
theorem dS_narrow_172 : decode cS_narrow 172 = .ok (.iconst 1, 1) := by decide +kernel
theorem dS_narrow_173 : decode cS_narrow 173 = .ok (.laload, 1) := by decide +kernel
theorem dS_narrow_174 : decode cS_narrow 174 = .ok (.lmul, 1) := by decide +kernel
theorem dS_narrow_175 : decode cS_narrow 175 = .ok (.aload_n 0, 1) := by decide +kernel
theorem dS_narrow_176 : decode cS_narrow 176 = .ok (.getfield 7, 3) := by decide +kernel
theorem dS_narrow_179 : decode cS_narrow 179 = .ok (.iconst 1, 1) := by decide +kernel
theorem dS_narrow_180 : decode cS_narrow 180 = .ok (.laload, 1) := by decide +kernel
theorem dS_narrow_181 : decode cS_narrow 181 = .ok (.aload_n 0, 1) := by decide +kernel
theorem dS_narrow_182 : decode cS_narrow 182 = .ok (.getfield 13, 3) := by decide +kernel
theorem dS_narrow_185 : decode cS_narrow 185 = .ok (.iconst 0, 1) := by decide +kernel
theorem dS_narrow_186 : decode cS_narrow 186 = .ok (.laload, 1) := by decide +kernel
theorem dS_narrow_187 : decode cS_narrow 187 = .ok (.lmul, 1) := by decide +kernel
theorem dS_narrow_188 : decode cS_narrow 188 = .ok (.ladd, 1) := by decide +kernel
theorem dS_narrow_189 : decode cS_narrow 189 = .ok (.lstore 13, 2) := by decide +kernel
theorem dS_narrow_191 : decode cS_narrow 191 = .ok (.lload 13, 2) := by decide +kernel
theorem dS_narrow_193 : decode cS_narrow 193 = .ok (.lconst 0, 1) := by decide +kernel
theorem dS_narrow_194 : decode cS_narrow 194 = .ok (.lcmp, 1) := by decide +kernel
theorem dS_narrow_195 : decode cS_narrow 195 = .ok (.ifCond .gt 28, 3) := by decide +kernel
theorem dS_narrow_198 : decode cS_narrow 198 = .ok (.lload 13, 2) := by decide +kernel
theorem dS_narrow_200 : decode cS_narrow 200 = .ok (.lconst 0, 1) := by decide +kernel
theorem dS_narrow_201 : decode cS_narrow 201 = .ok (.lcmp, 1) := by decide +kernel
theorem dS_narrow_202 : decode cS_narrow 202 = .ok (.ifCond .ne 25, 3) := by decide +kernel
theorem dS_narrow_205 : decode cS_narrow 205 = .ok (.aload_n 0, 1) := by decide +kernel
theorem dS_narrow_206 : decode cS_narrow 206 = .ok (.getfield 16, 3) := by decide +kernel
theorem dS_narrow_209 : decode cS_narrow 209 = .ok (.iconst 0, 1) := by decide +kernel
theorem dS_narrow_210 : decode cS_narrow 210 = .ok (.baload, 1) := by decide +kernel
theorem dS_narrow_211 : decode cS_narrow 211 = .ok (.ifCond .ne 16, 3) := by decide +kernel
theorem dS_narrow_214 : decode cS_narrow 214 = .ok (.aload_n 0, 1) := by decide +kernel
theorem dS_narrow_215 : decode cS_narrow 215 = .ok (.getfield 16, 3) := by decide +kernel
theorem dS_narrow_218 : decode cS_narrow 218 = .ok (.iconst 1, 1) := by decide +kernel
theorem dS_narrow_219 : decode cS_narrow 219 = .ok (.baload, 1) := by decide +kernel
theorem dS_narrow_220 : decode cS_narrow 220 = .ok (.ifCond .ne 7, 3) := by decide +kernel
theorem dS_narrow_223 : decode cS_narrow 223 = .ok (.iconst 1, 1) := by decide +kernel
theorem dS_narrow_224 : decode cS_narrow 224 = .ok (.goto 4, 3) := by decide +kernel
theorem dS_narrow_227 : decode cS_narrow 227 = .ok (.iconst 0, 1) := by decide +kernel
theorem dS_narrow_228 : decode cS_narrow 228 = .ok (.ireturn, 1) := by decide +kernel
