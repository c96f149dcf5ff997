theorem dX6_init_0 : decode cX6_init 0 = .ok (.aload_n 0, 1) := by decide +kernel
theorem dX6_init_1 : decode cX6_init 1 = .ok (.invokespecial 1, 3) := by decide +kernel
theorem dX6_init_4 : decode cX6_init 4 = .ok (.aload_n 0, 1) := by decide +kernel
theorem dX6_init_5 : decode cX6_init 5 = .ok (.sipush 200, 3) := by decide +kernel
theorem dX6_init_8 : decode cX6_init 8 = .ok (.newarray .int, 2) := by decide +kernel
theorem dX6_init_10 : decode cX6_init 10 = .ok (.putfield 7, 3) := by decide +kernel
theorem dX6_init_13 : decode cX6_init 13 = .ok (.aload_n 0, 1) := by decide +kernel
theorem dX6_init_14 : decode cX6_init 14 = .ok (.bipush 56, 2) := by decide +kernel
theorem dX6_init_16 : decode cX6_init 16 = .ok (.newarray .int, 2) := by decide +kernel
theorem dX6_init_18 : decode cX6_init 18 = .ok (.putfield 13, 3) := by decide +kernel
theorem dX6_init_21 : decode cX6_init 21 = .ok (.aload_n 0, 1) := by decide +kernel
theorem dX6_init_22 : decode cX6_init 22 = .ok (.bipush 56, 2) := by decide +kernel
theorem dX6_init_24 : decode cX6_init 24 = .ok (.newarray .int, 2) := by decide +kernel
theorem dX6_init_26 : decode cX6_init 26 = .ok (.putfield 16, 3) := by decide +kernel
theorem dX6_init_29 : decode cX6_init 29 = .ok (.aload_n 0, 1) := by decide +kernel
theorem dX6_init_30 : decode cX6_init 30 = .ok (.bipush 16, 2) := by decide +kernel
theorem dX6_init_32 : decode cX6_init 32 = .ok (.newarray .int, 2) := by decide +kernel
theorem dX6_init_34 : decode cX6_init 34 = .ok (.putfield 19, 3) := by decide +kernel
theorem dX6_init_37 : decode cX6_init 37 = .ok (.aload_n 0, 1) := by decide +kernel
theorem dX6_init_38 : decode cX6_init 38 = .ok (.bipush 16, 2) := by decide +kernel
theorem dX6_init_40 : decode cX6_init 40 = .ok (.newarray .int, 2) := by decide +kernel
theorem dX6_init_42 : decode cX6_init 42 = .ok (.putfield 22, 3) := by decide +kernel
theorem dX6_init_45 : decode cX6_init 45 = .ok (.aload_n 0, 1) := by decide +kernel
theorem dX6_init_46 : decode cX6_init 46 = .ok (.sipush 128, 3) := by decide +kernel
theorem dX6_init_49 : decode cX6_init 49 = .ok (.newarray .int, 2) := by decide +kernel
theorem dX6_init_51 : decode cX6_init 51 = .ok (.putfield 25, 3) := by decide +kernel
theorem dX6_init_54 : decode cX6_init 54 = .ok (.aload_n 0, 1) := by decide +kernel
theorem dX6_init_55 : decode cX6_init 55 = .ok (.bipush 32, 2) := by decide +kernel
theorem dX6_init_57 : decode cX6_init 57 = .ok (.newarray .int, 2) := by decide +kernel
theorem dX6_init_59 : decode cX6_init 59 = .ok (.putfield 28, 3) := by decide +kernel
theorem dX6_init_62 : decode cX6_init 62 = .ok (.aload_n 0, 1) := by decide +kernel
theorem dX6_init_63 : decode cX6_init 63 = .ok (.bipush 7, 2) := by decide +kernel
theorem dX6_init_65 : decode cX6_init 65 = .ok (.newarray .int, 2) := by decide +kernel
theorem dX6_init_67 : decode cX6_init 67 = .ok (.putfield 31, 3) := by decide +kernel
theorem dX6_init_70 : decode cX6_init 70 = .ok (.aload_n 0, 1) := by decide +kernel
theorem dX6_init_71 : decode cX6_init 71 = .ok (.iconst 4, 1) := by decide +kernel
theorem dX6_init_72 : decode cX6_init 72 = .ok (.newarray .int, 2) := by decide +kernel
theorem dX6_init_74 : decode cX6_init 74 = .ok (.putfield 34, 3) := by decide +kernel
theorem dX6_init_77 : decode cX6_init 77 = .ok (.aload_n 0, 1) := by decide +kernel
theorem dX6_init_78 : decode cX6_init 78 = .ok (.bipush 7, 2) := by decide +kernel
theorem dX6_init_80 : decode cX6_init 80 = .ok (.newarray .int, 2) := by decide +kernel
theorem dX6_init_82 : decode cX6_init 82 = .ok (.putfield 37, 3) := by decide +kernel
theorem dX6_init_85 : decode cX6_init 85 = .ok (.aload_n 0, 1) := by decide +kernel
theorem dX6_init_86 : decode cX6_init 86 = .ok (.bipush 7, 2) := by decide +kernel
theorem dX6_init_88 : decode cX6_init 88 = .ok (.newarray .int, 2) := by decide +kernel
theorem dX6_init_90 : decode cX6_init 90 = .ok (.putfield 40, 3) := by decide +kernel
theorem dX6_init_93 : decode cX6_init 93 = .ok (.aload_n 0, 1) := by decide +kernel
theorem dX6_init_94 : decode cX6_init 94 = .ok (.bipush 7, 2) := by decide +kernel
theorem dX6_init_96 : decode cX6_init 96 = .ok (.newarray .int, 2) := by decide +kernel
theorem dX6_init_98 : decode cX6_init 98 = .ok (.putfield 43, 3) := by decide +kernel
theorem dX6_init_101 : decode cX6_init 101 = .ok (.aload_n 0, 1) := by decide +kernel
theorem dX6_init_102 : decode cX6_init 102 = .ok (.bipush 7, 2) := by decide +kernel
theorem dX6_init_104 : decode cX6_init 104 = .ok (.newarray .int, 2) := by decide +kernel
theorem dX6_init_106 : decode cX6_init 106 = .ok (.putfield 46, 3) := by decide +kernel
theorem dX6_init_109 : decode cX6_init 109 = .ok (.aload_n 0, 1) := by decide +kernel
theorem dX6_init_110 : decode cX6_init 110 = .ok (.bipush 7, 2) := by decide +kernel
theorem dX6_init_112 : decode cX6_init 112 = .ok (.newarray .int, 2) := by decide +kernel
theorem dX6_init_114 : decode cX6_init 114 = .ok (.putfield 49, 3) := by decide +kernel
theorem dX6_init_117 : decode cX6_init 117 = .ok (.aload_n 0, 1) := by decide +kernel
theorem dX6_init_118 : decode cX6_init 118 = .ok (.invokevirtual 52, 3) := by decide +kernel
theorem dX6_init_121 : decode cX6_init 121 = .ok (.aload_n 0, 1) := by decide +kernel
theorem dX6_init_122 : decode cX6_init 122 = .ok (.getfield 16, 3) := by decide +kernel
theorem dX6_init_125 : decode cX6_init 125 = .ok (.iconst 0, 1) := by decide +kernel
theorem dX6_init_126 : decode cX6_init 126 = .ok (.bipush 12, 2) := by decide +kernel
theorem dX6_init_128 : decode cX6_init 128 = .ok (.iastore, 1) := by decide +kernel
theorem dX6_init_129 : decode cX6_init 129 = .ok (.aload_n 0, 1) := by decide +kernel
theorem dX6_init_130 : decode cX6_init 130 = .ok (.getfield 16, 3) := by decide +kernel
theorem dX6_init_133 : decode cX6_init 133 = .ok (.iconst 2, 1) := by decide +kernel
theorem dX6_init_134 : decode cX6_init 134 = .ok (.bipush 7, 2) := by decide +kernel
theorem dX6_init_136 : decode cX6_init 136 = .ok (.iastore, 1) := by decide +kernel
theorem dX6_init_137 : decode cX6_init 137 = .ok (.aload_n 0, 1) := by decide +kernel
theorem dX6_init_138 : decode cX6_init 138 = .ok (.getfield 22, 3) := by decide +kernel
theorem dX6_init_141 : decode cX6_init 141 = .ok (.iconst 0, 1) := by decide +kernel
theorem dX6_init_142 : decode cX6_init 142 = .ok (.bipush 6, 2) := by decide +kernel
theorem dX6_init_144 : decode cX6_init 144 = .ok (.iastore, 1) := by decide +kernel
theorem dX6_init_145 : decode cX6_init 145 = .ok (.aload_n 0, 1) := by decide +kernel
theorem dX6_init_146 : decode cX6_init 146 = .ok (.iconst 0, 1) := by decide +kernel
theorem dX6_init_147 : decode cX6_init 147 = .ok (.iconst 1, 1) := by decide +kernel
theorem dX6_init_148 : decode cX6_init 148 = .ok (.iconst 5, 1) := by decide +kernel
theorem dX6_init_149 : decode cX6_init 149 = .ok (.iconst 3, 1) := by decide +kernel
theorem dX6_init_150 : decode cX6_init 150 = .ok (.iconst 4, 1) := by decide +kernel
theorem dX6_init_151 : decode cX6_init 151 = .ok (.iconst 1, 1) := by decide +kernel
theorem dX6_init_152 : decode cX6_init 152 = .ok (.invokevirtual 55, 3) := by decide +kernel
theorem dX6_init_155 : decode cX6_init 155 = .ok (.aload_n 0, 1) := by decide +kernel
theorem dX6_init_156 : decode cX6_init 156 = .ok (.iconst 0, 1) := by decide +kernel
theorem dX6_init_157 : decode cX6_init 157 = .ok (.iconst 1, 1) := by decide +kernel
theorem dX6_init_158 : decode cX6_init 158 = .ok (.bipush 7, 2) := by decide +kernel
theorem dX6_init_160 : decode cX6_init 160 = .ok (.iconst 4, 1) := by decide +kernel
theorem dX6_init_161 : decode cX6_init 161 = .ok (.bipush 6, 2) := by decide +kernel
theorem dX6_init_163 : decode cX6_init 163 = .ok (.iconst 0, 1) := by decide +kernel
theorem dX6_init_164 : decode cX6_init 164 = .ok (.invokevirtual 55, 3) := by decide +kernel
theorem dX6_init_167 : decode cX6_init 167 = .ok (.aload_n 0, 1) := by decide +kernel
theorem dX6_init_168 : decode cX6_init 168 = .ok (.iconst 1, 1) := by decide +kernel
theorem dX6_init_169 : decode cX6_init 169 = .ok (.iconst 3, 1) := by decide +kernel
theorem dX6_init_170 : decode cX6_init 170 = .ok (.iconst 4, 1) := by decide +kernel
theorem dX6_init_171 : decode cX6_init 171 = .ok (.iconst 5, 1) := by decide +kernel
theorem dX6_init_172 : decode cX6_init 172 = .ok (.iconst 0, 1) := by decide +kernel
theorem dX6_init_173 : decode cX6_init 173 = .ok (.iconst 1, 1) := by decide +kernel
theorem dX6_init_174 : decode cX6_init 174 = .ok (.invokevirtual 55, 3) := by decide +kernel
theorem dX6_init_177 : decode cX6_init 177 = .ok (.aload_n 0, 1) := by decide +kernel
theorem dX6_init_178 : decode cX6_init 178 = .ok (.iconst 2, 1) := by decide +kernel
theorem dX6_init_179 : decode cX6_init 179 = .ok (.iconst 1, 1) := by decide +kernel
theorem dX6_init_180 : decode cX6_init 180 = .ok (.iconst 2, 1) := by decide +kernel
theorem dX6_init_181 : decode cX6_init 181 = .ok (.iconst 2, 1) := by decide +kernel
theorem dX6_init_182 : decode cX6_init 182 = .ok (.bipush 7, 2) := by decide +kernel
theorem dX6_init_184 : decode cX6_init 184 = .ok (.iconst 0, 1) := by decide +kernel
theorem dX6_init_185 : decode cX6_init 185 = .ok (.invokevirtual 55, 3) := by decide +kernel
theorem dX6_init_188 : decode cX6_init 188 = .ok (.aload_n 0, 1) := by decide +kernel
theorem dX6_init_189 : decode cX6_init 189 = .ok (.iconst 2, 1) := by decide +kernel
theorem dX6_init_190 : decode cX6_init 190 = .ok (.iconst 1, 1) := by decide +kernel
theorem dX6_init_191 : decode cX6_init 191 = .ok (.iconst 2, 1) := by decide +kernel
theorem dX6_init_192 : decode cX6_init 192 = .ok (.bipush 6, 2) := by decide +kernel
theorem dX6_init_194 : decode cX6_init 194 = .ok (.bipush 8, 2) := by decide +kernel
theorem dX6_init_196 : decode cX6_init 196 = .ok (.iconst 0, 1) := by decide +kernel
theorem dX6_init_197 : decode cX6_init 197 = .ok (.invokevirtual 55, 3) := by decide +kernel
theorem dX6_init_200 : decode cX6_init 200 = .ok (.aload_n 0, 1) := by decide +kernel
theorem dX6_init_201 : decode cX6_init 201 = .ok (.iconst 3, 1) := by decide +kernel
theorem dX6_init_202 : decode cX6_init 202 = .ok (.iconst 2, 1) := by decide +kernel
theorem dX6_init_203 : decode cX6_init 203 = .ok (.bipush 8, 2) := by decide +kernel
theorem dX6_init_205 : decode cX6_init 205 = .ok (.iconst 3, 1) := by decide +kernel
theorem dX6_init_206 : decode cX6_init 206 = .ok (.bipush (-4), 2) := by decide +kernel
theorem dX6_init_208 : decode cX6_init 208 = .ok (.bipush (-4), 2) := by decide +kernel
theorem dX6_init_210 : decode cX6_init 210 = .ok (.invokevirtual 55, 3) := by decide +kernel
theorem dX6_init_213 : decode cX6_init 213 = .ok (.aload_n 0, 1) := by decide +kernel
theorem dX6_init_214 : decode cX6_init 214 = .ok (.iconst 0, 1) := by decide +kernel
theorem dX6_init_215 : decode cX6_init 215 = .ok (.iconst 2, 1) := by decide +kernel
theorem dX6_init_216 : decode cX6_init 216 = .ok (.bipush 6, 2) := by decide +kernel
theorem dX6_init_218 : decode cX6_init 218 = .ok (.iconst 1, 1) := by decide +kernel
theorem dX6_init_219 : decode cX6_init 219 = .ok (.bipush (-4), 2) := by decide +kernel
theorem dX6_init_221 : decode cX6_init 221 = .ok (.bipush (-4), 2) := by decide +kernel
theorem dX6_init_223 : decode cX6_init 223 = .ok (.invokevirtual 55, 3) := by decide +kernel
theorem dX6_init_226 : decode cX6_init 226 = .ok (.aload_n 0, 1) := by decide +kernel
theorem dX6_init_227 : decode cX6_init 227 = .ok (.getfield 16, 3) := by decide +kernel
theorem dX6_init_230 : decode cX6_init 230 = .ok (.bipush 34, 2) := by decide +kernel
theorem dX6_init_232 : decode cX6_init 232 = .ok (.iconst 4, 1) := by decide +kernel
theorem dX6_init_233 : decode cX6_init 233 = .ok (.iastore, 1) := by decide +kernel
theorem dX6_init_234 : decode cX6_init 234 = .ok (.aload_n 0, 1) := by decide +kernel
theorem dX6_init_235 : decode cX6_init 235 = .ok (.getfield 16, 3) := by decide +kernel
theorem dX6_init_238 : decode cX6_init 238 = .ok (.bipush 35, 2) := by decide +kernel
theorem dX6_init_240 : decode cX6_init 240 = .ok (.iconst 4, 1) := by decide +kernel
theorem dX6_init_241 : decode cX6_init 241 = .ok (.iastore, 1) := by decide +kernel
theorem dX6_init_242 : decode cX6_init 242 = .ok (.aload_n 0, 1) := by decide +kernel
theorem dX6_init_243 : decode cX6_init 243 = .ok (.getfield 16, 3) := by decide +kernel
theorem dX6_init_246 : decode cX6_init 246 = .ok (.bipush 39, 2) := by decide +kernel
theorem dX6_init_248 : decode cX6_init 248 = .ok (.bipush 30, 2) := by decide +kernel
theorem dX6_init_250 : decode cX6_init 250 = .ok (.iastore, 1) := by decide +kernel
theorem dX6_init_251 : decode cX6_init 251 = .ok (.aload_n 0, 1) := by decide +kernel
theorem dX6_init_252 : decode cX6_init 252 = .ok (.invokevirtual 59, 3) := by decide +kernel
theorem dX6_init_255 : decode cX6_init 255 = .ok (.return_, 1) := by decide +kernel
theorem dX6_firstThing_0 : decode cX6_firstThing 0 = .ok (.aload_n 0, 1) := by decide +kernel
theorem dX6_firstThing_1 : decode cX6_firstThing 1 = .ok (.getfield 16, 3) := by decide +kernel
theorem dX6_firstThing_4 : decode cX6_firstThing 4 = .ok (.iconst 3, 1) := by decide +kernel
theorem dX6_firstThing_5 : decode cX6_firstThing 5 = .ok (.iaload, 1) := by decide +kernel
theorem dX6_firstThing_6 : decode cX6_firstThing 6 = .ok (.istore 7, 2) := by decide +kernel
theorem dX6_firstThing_8 : decode cX6_firstThing 8 = .ok (.aload_n 0, 1) := by decide +kernel
theorem dX6_firstThing_9 : decode cX6_firstThing 9 = .ok (.getfield 16, 3) := by decide +kernel
theorem dX6_firstThing_12 : decode cX6_firstThing 12 = .ok (.iconst 4, 1) := by decide +kernel
theorem dX6_firstThing_13 : decode cX6_firstThing 13 = .ok (.iload 7, 2) := by decide +kernel
theorem dX6_firstThing_15 : decode cX6_firstThing 15 = .ok (.iadd, 1) := by decide +kernel
theorem dX6_firstThing_16 : decode cX6_firstThing 16 = .ok (.iload_n 1, 1) := by decide +kernel
theorem dX6_firstThing_17 : decode cX6_firstThing 17 = .ok (.iastore, 1) := by decide +kernel
theorem dX6_firstThing_18 : decode cX6_firstThing 18 = .ok (.aload_n 0, 1) := by decide +kernel
theorem dX6_firstThing_19 : decode cX6_firstThing 19 = .ok (.getfield 16, 3) := by decide +kernel
theorem dX6_firstThing_22 : decode cX6_firstThing 22 = .ok (.bipush 11, 2) := by decide +kernel
theorem dX6_firstThing_24 : decode cX6_firstThing 24 = .ok (.iload 7, 2) := by decide +kernel
theorem dX6_firstThing_26 : decode cX6_firstThing 26 = .ok (.iadd, 1) := by decide +kernel
theorem dX6_firstThing_27 : decode cX6_firstThing 27 = .ok (.iload_n 2, 1) := by decide +kernel
theorem dX6_firstThing_28 : decode cX6_firstThing 28 = .ok (.iastore, 1) := by decide +kernel
theorem dX6_firstThing_29 : decode cX6_firstThing 29 = .ok (.aload_n 0, 1) := by decide +kernel
theorem dX6_firstThing_30 : decode cX6_firstThing 30 = .ok (.getfield 16, 3) := by decide +kernel
theorem dX6_firstThing_33 : decode cX6_firstThing 33 = .ok (.bipush 18, 2) := by decide +kernel
theorem dX6_firstThing_35 : decode cX6_firstThing 35 = .ok (.iload 7, 2) := by decide +kernel
theorem dX6_firstThing_37 : decode cX6_firstThing 37 = .ok (.iadd, 1) := by decide +kernel
theorem dX6_firstThing_38 : decode cX6_firstThing 38 = .ok (.iload_n 3, 1) := by decide +kernel
theorem dX6_firstThing_39 : decode cX6_firstThing 39 = .ok (.iastore, 1) := by decide +kernel
theorem dX6_firstThing_40 : decode cX6_firstThing 40 = .ok (.aload_n 0, 1) := by decide +kernel
theorem dX6_firstThing_41 : decode cX6_firstThing 41 = .ok (.getfield 16, 3) := by decide +kernel
theorem dX6_firstThing_44 : decode cX6_firstThing 44 = .ok (.bipush 25, 2) := by decide +kernel
theorem dX6_firstThing_46 : decode cX6_firstThing 46 = .ok (.iload 7, 2) := by decide +kernel
theorem dX6_firstThing_48 : decode cX6_firstThing 48 = .ok (.iadd, 1) := by decide +kernel
theorem dX6_firstThing_49 : decode cX6_firstThing 49 = .ok (.iload 4, 2) := by decide +kernel
theorem dX6_firstThing_51 : decode cX6_firstThing 51 = .ok (.iastore, 1) := by decide +kernel
theorem dX6_firstThing_52 : decode cX6_firstThing 52 = .ok (.aload_n 0, 1) := by decide +kernel
theorem dX6_firstThing_53 : decode cX6_firstThing 53 = .ok (.getfield 22, 3) := by decide +kernel
theorem dX6_firstThing_56 : decode cX6_firstThing 56 = .ok (.iconst 2, 1) := by decide +kernel
theorem dX6_firstThing_57 : decode cX6_firstThing 57 = .ok (.iload 7, 2) := by decide +kernel
theorem dX6_firstThing_59 : decode cX6_firstThing 59 = .ok (.iadd, 1) := by decide +kernel
theorem dX6_firstThing_60 : decode cX6_firstThing 60 = .ok (.iload 5, 2) := by decide +kernel
theorem dX6_firstThing_62 : decode cX6_firstThing 62 = .ok (.iastore, 1) := by decide +kernel
theorem dX6_firstThing_63 : decode cX6_firstThing 63 = .ok (.aload_n 0, 1) := by decide +kernel
theorem dX6_firstThing_64 : decode cX6_firstThing 64 = .ok (.getfield 22, 3) := by decide +kernel
theorem dX6_firstThing_67 : decode cX6_firstThing 67 = .ok (.bipush 9, 2) := by decide +kernel
theorem dX6_firstThing_69 : decode cX6_firstThing 69 = .ok (.iload 7, 2) := by decide +kernel
theorem dX6_firstThing_71 : decode cX6_firstThing 71 = .ok (.iadd, 1) := by decide +kernel
theorem dX6_firstThing_72 : decode cX6_firstThing 72 = .ok (.iload 6, 2) := by decide +kernel
theorem dX6_firstThing_74 : decode cX6_firstThing 74 = .ok (.iastore, 1) := by decide +kernel
theorem dX6_firstThing_75 : decode cX6_firstThing 75 = .ok (.aload_n 0, 1) := by decide +kernel
theorem dX6_firstThing_76 : decode cX6_firstThing 76 = .ok (.getfield 16, 3) := by decide +kernel
theorem dX6_firstThing_79 : decode cX6_firstThing 79 = .ok (.iconst 3, 1) := by decide +kernel
theorem dX6_firstThing_80 : decode cX6_firstThing 80 = .ok (.dup2, 1) := by decide +kernel
theorem dX6_firstThing_81 : decode cX6_firstThing 81 = .ok (.iaload, 1) := by decide +kernel
theorem dX6_firstThing_82 : decode cX6_firstThing 82 = .ok (.iconst 1, 1) := by decide +kernel
theorem dX6_firstThing_83 : decode cX6_firstThing 83 = .ok (.iadd, 1) := by decide +kernel
theorem dX6_firstThing_84 : decode cX6_firstThing 84 = .ok (.iastore, 1) := by decide +kernel
theorem dX6_firstThing_85 : decode cX6_firstThing 85 = .ok (.return_, 1) := by decide +kernel
theorem dX6_in_0 : decode cX6_in 0 = .ok (.lload_n 0, 1) := by decide +kernel
theorem dX6_in_1 : decode cX6_in 1 = .ok (.lload_n 2, 1) := by decide +kernel
theorem dX6_in_2 : decode cX6_in 2 = .ok (.lcmp, 1) := by decide +kernel
theorem dX6_in_3 : decode cX6_in 3 = .ok (.ifCond .lt 14, 3) := by decide +kernel
theorem dX6_in_6 : decode cX6_in 6 = .ok (.lload_n 0, 1) := by decide +kernel
theorem dX6_in_7 : decode cX6_in 7 = .ok (.lload 4, 2) := by decide +kernel
theorem dX6_in_9 : decode cX6_in 9 = .ok (.lcmp, 1) := by decide +kernel
theorem dX6_in_10 : decode cX6_in 10 = .ok (.ifCond .gt 7, 3) := by decide +kernel
theorem dX6_in_13 : decode cX6_in 13 = .ok (.iconst 1, 1) := by decide +kernel
theorem dX6_in_14 : decode cX6_in 14 = .ok (.goto 4, 3) := by decide +kernel
theorem dX6_in_17 : decode cX6_in 17 = .ok (.iconst 0, 1) := by decide +kernel
theorem dX6_in_18 : decode cX6_in 18 = .ok (.ireturn, 1) := by decide +kernel
theorem dX6_has_0 : decode cX6_has 0 = .ok (.iload_n 0, 1) := by decide +kernel
theorem dX6_has_1 : decode cX6_has 1 = .ok (.iload_n 1, 1) := by decide +kernel
theorem dX6_has_2 : decode cX6_has 2 = .ok (.ishr, 1) := by decide +kernel
theorem dX6_has_3 : decode cX6_has 3 = .ok (.iconst 1, 1) := by decide +kernel
theorem dX6_has_4 : decode cX6_has 4 = .ok (.iand, 1) := by decide +kernel
theorem dX6_has_5 : decode cX6_has 5 = .ok (.iconst 1, 1) := by decide +kernel
theorem dX6_has_6 : decode cX6_has 6 = .ok (.if_icmp .ne 7, 3) := by decide +kernel
theorem dX6_has_9 : decode cX6_has 9 = .ok (.iconst 1, 1) := by decide +kernel
theorem dX6_has_10 : decode cX6_has 10 = .ok (.goto 4, 3) := by decide +kernel
theorem dX6_has_13 : decode cX6_has 13 = .ok (.iconst 0, 1) := by decide +kernel
theorem dX6_has_14 : decode cX6_has 14 = .ok (.ireturn, 1) := by decide +kernel
theorem dX6_ones_0 : decode cX6_ones 0 = .ok (.iconst 0, 1) := by decide +kernel
theorem dX6_ones_1 : decode cX6_ones 1 = .ok (.istore_n 1, 1) := by decide +kernel
theorem dX6_ones_2 : decode cX6_ones 2 = .ok (.iload_n 0, 1) := by decide +kernel
theorem dX6_ones_3 : decode cX6_ones 3 = .ok (.istore_n 2, 1) := by decide +kernel
theorem dX6_ones_4 : decode cX6_ones 4 = .ok (.iload_n 2, 1) := by decide +kernel
theorem dX6_ones_5 : decode cX6_ones 5 = .ok (.ifCond .eq 15, 3) := by decide +kernel
theorem dX6_ones_8 : decode cX6_ones 8 = .ok (.iinc 1 1, 3) := by decide +kernel
theorem dX6_ones_11 : decode cX6_ones 11 = .ok (.iload_n 2, 1) := by decide +kernel
theorem dX6_ones_12 : decode cX6_ones 12 = .ok (.iload_n 2, 1) := by decide +kernel
theorem dX6_ones_13 : decode cX6_ones 13 = .ok (.iconst 1, 1) := by decide +kernel
theorem dX6_ones_14 : decode cX6_ones 14 = .ok (.isub, 1) := by decide +kernel
theorem dX6_ones_15 : decode cX6_ones 15 = .ok (.iand, 1) := by decide +kernel
theorem dX6_ones_16 : decode cX6_ones 16 = .ok (.istore_n 2, 1) := by decide +kernel
theorem dX6_ones_17 : decode cX6_ones 17 = .ok (.goto (-13), 3) := by decide +kernel
theorem dX6_ones_20 : decode cX6_ones 20 = .ok (.iload_n 1, 1) := by decide +kernel
theorem dX6_ones_21 : decode cX6_ones 21 = .ok (.ireturn, 1) := by decide +kernel
theorem dX6_empty_0 : decode cX6_empty 0 = .ok (.iconst 0, 1) := by decide +kernel
theorem dX6_empty_1 : decode cX6_empty 1 = .ok (.istore_n 1, 1) := by decide +kernel
theorem dX6_empty_2 : decode cX6_empty 2 = .ok (.iload_n 1, 1) := by decide +kernel
theorem dX6_empty_3 : decode cX6_empty 3 = .ok (.bipush 56, 2) := by decide +kernel
theorem dX6_empty_5 : decode cX6_empty 5 = .ok (.if_icmp .ge 27, 3) := by decide +kernel
theorem dX6_empty_8 : decode cX6_empty 8 = .ok (.aload_n 0, 1) := by decide +kernel
theorem dX6_empty_9 : decode cX6_empty 9 = .ok (.getfield 16, 3) := by decide +kernel
theorem dX6_empty_12 : decode cX6_empty 12 = .ok (.iload_n 1, 1) := by decide +kernel
theorem dX6_empty_13 : decode cX6_empty 13 = .ok (.iload_n 1, 1) := by decide +kernel
theorem dX6_empty_14 : decode cX6_empty 14 = .ok (.bipush 32, 2) := by decide +kernel
theorem dX6_empty_16 : decode cX6_empty 16 = .ok (.if_icmp .ge 7, 3) := by decide +kernel
theorem dX6_empty_19 : decode cX6_empty 19 = .ok (.iconst 0, 1) := by decide +kernel
theorem dX6_empty_20 : decode cX6_empty 20 = .ok (.goto 5, 3) := by decide +kernel
theorem dX6_empty_23 : decode cX6_empty 23 = .ok (.bipush 10, 2) := by decide +kernel
theorem dX6_empty_25 : decode cX6_empty 25 = .ok (.iastore, 1) := by decide +kernel
theorem dX6_empty_26 : decode cX6_empty 26 = .ok (.iinc 1 1, 3) := by decide +kernel
theorem dX6_empty_29 : decode cX6_empty 29 = .ok (.goto (-27), 3) := by decide +kernel
theorem dX6_empty_32 : decode cX6_empty 32 = .ok (.aload_n 0, 1) := by decide +kernel
theorem dX6_empty_33 : decode cX6_empty 33 = .ok (.getfield 16, 3) := by decide +kernel
theorem dX6_empty_36 : decode cX6_empty 36 = .ok (.iconst 0, 1) := by decide +kernel
theorem dX6_empty_37 : decode cX6_empty 37 = .ok (.bipush 12, 2) := by decide +kernel
theorem dX6_empty_39 : decode cX6_empty 39 = .ok (.iastore, 1) := by decide +kernel
theorem dX6_empty_40 : decode cX6_empty 40 = .ok (.aload_n 0, 1) := by decide +kernel
theorem dX6_empty_41 : decode cX6_empty 41 = .ok (.getfield 16, 3) := by decide +kernel
theorem dX6_empty_44 : decode cX6_empty 44 = .ok (.iconst 1, 1) := by decide +kernel
theorem dX6_empty_45 : decode cX6_empty 45 = .ok (.iconst 5, 1) := by decide +kernel
theorem dX6_empty_46 : decode cX6_empty 46 = .ok (.iastore, 1) := by decide +kernel
theorem dX6_empty_47 : decode cX6_empty 47 = .ok (.aload_n 0, 1) := by decide +kernel
theorem dX6_empty_48 : decode cX6_empty 48 = .ok (.getfield 16, 3) := by decide +kernel
theorem dX6_empty_51 : decode cX6_empty 51 = .ok (.iconst 2, 1) := by decide +kernel
theorem dX6_empty_52 : decode cX6_empty 52 = .ok (.bipush 6, 2) := by decide +kernel
theorem dX6_empty_54 : decode cX6_empty 54 = .ok (.iastore, 1) := by decide +kernel
theorem dX6_empty_55 : decode cX6_empty 55 = .ok (.iconst 0, 1) := by decide +kernel
theorem dX6_empty_56 : decode cX6_empty 56 = .ok (.istore_n 1, 1) := by decide +kernel
theorem dX6_empty_57 : decode cX6_empty 57 = .ok (.iload_n 1, 1) := by decide +kernel
theorem dX6_empty_58 : decode cX6_empty 58 = .ok (.bipush 16, 2) := by decide +kernel
theorem dX6_empty_60 : decode cX6_empty 60 = .ok (.if_icmp .ge 26, 3) := by decide +kernel
theorem dX6_empty_63 : decode cX6_empty 63 = .ok (.aload_n 0, 1) := by decide +kernel
theorem dX6_empty_64 : decode cX6_empty 64 = .ok (.getfield 22, 3) := by decide +kernel
theorem dX6_empty_67 : decode cX6_empty 67 = .ok (.iload_n 1, 1) := by decide +kernel
theorem dX6_empty_68 : decode cX6_empty 68 = .ok (.iload_n 1, 1) := by decide +kernel
theorem dX6_empty_69 : decode cX6_empty 69 = .ok (.iconst 2, 1) := by decide +kernel
theorem dX6_empty_70 : decode cX6_empty 70 = .ok (.if_icmp .ge 7, 3) := by decide +kernel
theorem dX6_empty_73 : decode cX6_empty 73 = .ok (.iconst 0, 1) := by decide +kernel
theorem dX6_empty_74 : decode cX6_empty 74 = .ok (.goto 5, 3) := by decide +kernel
theorem dX6_empty_77 : decode cX6_empty 77 = .ok (.bipush (-4), 2) := by decide +kernel
theorem dX6_empty_79 : decode cX6_empty 79 = .ok (.iastore, 1) := by decide +kernel
theorem dX6_empty_80 : decode cX6_empty 80 = .ok (.iinc 1 1, 3) := by decide +kernel
theorem dX6_empty_83 : decode cX6_empty 83 = .ok (.goto (-26), 3) := by decide +kernel
theorem dX6_empty_86 : decode cX6_empty 86 = .ok (.aload_n 0, 1) := by decide +kernel
theorem dX6_empty_87 : decode cX6_empty 87 = .ok (.getfield 22, 3) := by decide +kernel
theorem dX6_empty_90 : decode cX6_empty 90 = .ok (.iconst 0, 1) := by decide +kernel
theorem dX6_empty_91 : decode cX6_empty 91 = .ok (.iconst 5, 1) := by decide +kernel
theorem dX6_empty_92 : decode cX6_empty 92 = .ok (.iastore, 1) := by decide +kernel
theorem dX6_empty_93 : decode cX6_empty 93 = .ok (.aload_n 0, 1) := by decide +kernel
theorem dX6_empty_94 : decode cX6_empty 94 = .ok (.iconst 0, 1) := by decide +kernel
theorem dX6_empty_95 : decode cX6_empty 95 = .ok (.putfield 62, 3) := by decide +kernel
theorem dX6_empty_98 : decode cX6_empty 98 = .ok (.return_, 1) := by decide +kernel
theorem dX6_write_0 : decode cX6_write 0 = .ok (.iload_n 1, 1) := by decide +kernel
theorem dX6_write_1 : decode cX6_write 1 = .ok (.i2l, 1) := by decide +kernel
theorem dX6_write_2 : decode cX6_write 2 = .ok (.ldc2_w 66, 3) := by decide +kernel
theorem dX6_write_5 : decode cX6_write 5 = .ok (.ldc2_w 68, 3) := by decide +kernel
theorem dX6_write_8 : decode cX6_write 8 = .ok (.invokestatic 70, 3) := by decide +kernel
theorem dX6_write_11 : decode cX6_write 11 = .ok (.ifCond .ne 5, 3) := by decide +kernel
theorem dX6_write_14 : decode cX6_write 14 = .ok (.iconst (-1), 1) := by decide +kernel
theorem dX6_write_15 : decode cX6_write 15 = .ok (.ireturn, 1) := by decide +kernel
theorem dX6_write_16 : decode cX6_write 16 = .ok (.aload_n 0, 1) := by decide +kernel
theorem dX6_write_17 : decode cX6_write 17 = .ok (.getfield 74, 3) := by decide +kernel
theorem dX6_write_20 : decode cX6_write 20 = .ok (.sipush 200, 3) := by decide +kernel
theorem dX6_write_23 : decode cX6_write 23 = .ok (.if_icmp .ne 6, 3) := by decide +kernel
theorem dX6_write_26 : decode cX6_write 26 = .ok (.bipush (-3), 2) := by decide +kernel
theorem dX6_write_28 : decode cX6_write 28 = .ok (.ireturn, 1) := by decide +kernel
theorem dX6_write_29 : decode cX6_write 29 = .ok (.aload_n 0, 1) := by decide +kernel
theorem dX6_write_30 : decode cX6_write 30 = .ok (.getfield 7, 3) := by decide +kernel
theorem dX6_write_33 : decode cX6_write 33 = .ok (.aload_n 0, 1) := by decide +kernel
theorem dX6_write_34 : decode cX6_write 34 = .ok (.getfield 74, 3) := by decide +kernel
theorem dX6_write_37 : decode cX6_write 37 = .ok (.iload_n 1, 1) := by decide +kernel
theorem dX6_write_38 : decode cX6_write 38 = .ok (.iastore, 1) := by decide +kernel
theorem dX6_write_39 : decode cX6_write 39 = .ok (.aload_n 0, 1) := by decide +kernel
theorem dX6_write_40 : decode cX6_write 40 = .ok (.dup, 1) := by decide +kernel
theorem dX6_write_41 : decode cX6_write 41 = .ok (.getfield 74, 3) := by decide +kernel
theorem dX6_write_44 : decode cX6_write 44 = .ok (.iconst 1, 1) := by decide +kernel
theorem dX6_write_45 : decode cX6_write 45 = .ok (.iadd, 1) := by decide +kernel
theorem dX6_write_46 : decode cX6_write 46 = .ok (.putfield 74, 3) := by decide +kernel
theorem dX6_write_49 : decode cX6_write 49 = .ok (.aload_n 0, 1) := by decide +kernel
theorem dX6_write_50 : decode cX6_write 50 = .ok (.getfield 74, 3) := by decide +kernel
theorem dX6_write_53 : decode cX6_write 53 = .ok (.ireturn, 1) := by decide +kernel
theorem dX6_wipe_0 : decode cX6_wipe 0 = .ok (.aload_n 0, 1) := by decide +kernel
theorem dX6_wipe_1 : decode cX6_wipe 1 = .ok (.getfield 74, 3) := by decide +kernel
theorem dX6_wipe_4 : decode cX6_wipe 4 = .ok (.istore_n 1, 1) := by decide +kernel
theorem dX6_wipe_5 : decode cX6_wipe 5 = .ok (.aload_n 0, 1) := by decide +kernel
theorem dX6_wipe_6 : decode cX6_wipe 6 = .ok (.iconst 0, 1) := by decide +kernel
theorem dX6_wipe_7 : decode cX6_wipe 7 = .ok (.putfield 74, 3) := by decide +kernel
theorem dX6_wipe_10 : decode cX6_wipe 10 = .ok (.iload_n 1, 1) := by decide +kernel
theorem dX6_wipe_11 : decode cX6_wipe 11 = .ok (.ireturn, 1) := by decide +kernel
theorem dX6_letterAt_0 : decode cX6_letterAt 0 = .ok (.iload_n 1, 1) := by decide +kernel
theorem dX6_letterAt_1 : decode cX6_letterAt 1 = .ok (.aload_n 0, 1) := by decide +kernel
theorem dX6_letterAt_2 : decode cX6_letterAt 2 = .ok (.getfield 74, 3) := by decide +kernel
theorem dX6_letterAt_5 : decode cX6_letterAt 5 = .ok (.if_icmp .ge 12, 3) := by decide +kernel
theorem dX6_letterAt_8 : decode cX6_letterAt 8 = .ok (.aload_n 0, 1) := by decide +kernel
theorem dX6_letterAt_9 : decode cX6_letterAt 9 = .ok (.getfield 7, 3) := by decide +kernel
theorem dX6_letterAt_12 : decode cX6_letterAt 12 = .ok (.iload_n 1, 1) := by decide +kernel
theorem dX6_letterAt_13 : decode cX6_letterAt 13 = .ok (.iaload, 1) := by decide +kernel
theorem dX6_letterAt_14 : decode cX6_letterAt 14 = .ok (.goto 4, 3) := by decide +kernel
theorem dX6_letterAt_17 : decode cX6_letterAt 17 = .ok (.iconst 0, 1) := by decide +kernel
theorem dX6_letterAt_18 : decode cX6_letterAt 18 = .ok (.ireturn, 1) := by decide +kernel
theorem dX6_numbers_0 : decode cX6_numbers 0 = .ok (.iconst 0, 1) := by decide +kernel
theorem dX6_numbers_1 : decode cX6_numbers 1 = .ok (.istore_n 2, 1) := by decide +kernel
theorem dX6_numbers_2 : decode cX6_numbers 2 = .ok (.iload_n 2, 1) := by decide +kernel
theorem dX6_numbers_3 : decode cX6_numbers 3 = .ok (.iload_n 1, 1) := by decide +kernel
theorem dX6_numbers_4 : decode cX6_numbers 4 = .ok (.if_icmp .ge 132, 3) := by decide +kernel
theorem dX6_numbers_7 : decode cX6_numbers 7 = .ok (.iconst 0, 1) := by decide +kernel
theorem dX6_numbers_8 : decode cX6_numbers 8 = .ok (.istore_n 3, 1) := by decide +kernel
theorem dX6_numbers_9 : decode cX6_numbers 9 = .ok (.iconst 0, 1) := by decide +kernel
theorem dX6_numbers_10 : decode cX6_numbers 10 = .ok (.istore 4, 2) := by decide +kernel
theorem dX6_numbers_12 : decode cX6_numbers 12 = .ok (.aload_n 0, 1) := by decide +kernel
theorem dX6_numbers_13 : decode cX6_numbers 13 = .ok (.aload_n 0, 1) := by decide +kernel
theorem dX6_numbers_14 : decode cX6_numbers 14 = .ok (.getfield 78, 3) := by decide +kernel
theorem dX6_numbers_17 : decode cX6_numbers 17 = .ok (.invokevirtual 81, 3) := by decide +kernel
theorem dX6_numbers_20 : decode cX6_numbers 20 = .ok (.i2l, 1) := by decide +kernel
theorem dX6_numbers_21 : decode cX6_numbers 21 = .ok (.ldc2_w 85, 3) := by decide +kernel
theorem dX6_numbers_24 : decode cX6_numbers 24 = .ok (.ldc2_w 87, 3) := by decide +kernel
theorem dX6_numbers_27 : decode cX6_numbers 27 = .ok (.invokestatic 70, 3) := by decide +kernel
theorem dX6_numbers_30 : decode cX6_numbers 30 = .ok (.ifCond .eq 43, 3) := by decide +kernel
theorem dX6_numbers_33 : decode cX6_numbers 33 = .ok (.iload_n 3, 1) := by decide +kernel
theorem dX6_numbers_34 : decode cX6_numbers 34 = .ok (.iconst 3, 1) := by decide +kernel
theorem dX6_numbers_35 : decode cX6_numbers 35 = .ok (.if_icmp .ge 38, 3) := by decide +kernel
theorem dX6_numbers_38 : decode cX6_numbers 38 = .ok (.bipush 10, 2) := by decide +kernel
theorem dX6_numbers_40 : decode cX6_numbers 40 = .ok (.iload 4, 2) := by decide +kernel
theorem dX6_numbers_42 : decode cX6_numbers 42 = .ok (.imul, 1) := by decide +kernel
theorem dX6_numbers_43 : decode cX6_numbers 43 = .ok (.aload_n 0, 1) := by decide +kernel
theorem dX6_numbers_44 : decode cX6_numbers 44 = .ok (.aload_n 0, 1) := by decide +kernel
theorem dX6_numbers_45 : decode cX6_numbers 45 = .ok (.getfield 78, 3) := by decide +kernel
theorem dX6_numbers_48 : decode cX6_numbers 48 = .ok (.invokevirtual 81, 3) := by decide +kernel
theorem dX6_numbers_51 : decode cX6_numbers 51 = .ok (.iadd, 1) := by decide +kernel
theorem dX6_numbers_52 : decode cX6_numbers 52 = .ok (.bipush 48, 2) := by decide +kernel
theorem dX6_numbers_54 : decode cX6_numbers 54 = .ok (.isub, 1) := by decide +kernel
theorem dX6_numbers_55 : decode cX6_numbers 55 = .ok (.istore 4, 2) := by decide +kernel
theorem dX6_numbers_57 : decode cX6_numbers 57 = .ok (.iinc 3 1, 3) := by decide +kernel
theorem dX6_numbers_60 : decode cX6_numbers 60 = .ok (.aload_n 0, 1) := by decide +kernel
theorem dX6_numbers_61 : decode cX6_numbers 61 = .ok (.dup, 1) := by decide +kernel
theorem dX6_numbers_62 : decode cX6_numbers 62 = .ok (.getfield 78, 3) := by decide +kernel
theorem dX6_numbers_65 : decode cX6_numbers 65 = .ok (.iconst 1, 1) := by decide +kernel
theorem dX6_numbers_66 : decode cX6_numbers 66 = .ok (.iadd, 1) := by decide +kernel
theorem dX6_numbers_67 : decode cX6_numbers 67 = .ok (.putfield 78, 3) := by decide +kernel
theorem dX6_numbers_70 : decode cX6_numbers 70 = .ok (.goto (-58), 3) := by decide +kernel
theorem dX6_numbers_73 : decode cX6_numbers 73 = .ok (.iload_n 3, 1) := by decide +kernel
theorem dX6_numbers_74 : decode cX6_numbers 74 = .ok (.i2l, 1) := by decide +kernel
theorem dX6_numbers_75 : decode cX6_numbers 75 = .ok (.lconst 1, 1) := by decide +kernel
theorem dX6_numbers_76 : decode cX6_numbers 76 = .ok (.ldc2_w 89, 3) := by decide +kernel
theorem dX6_numbers_79 : decode cX6_numbers 79 = .ok (.invokestatic 70, 3) := by decide +kernel
theorem dX6_numbers_82 : decode cX6_numbers 82 = .ok (.ifCond .eq 28, 3) := by decide +kernel
theorem dX6_numbers_85 : decode cX6_numbers 85 = .ok (.aload_n 0, 1) := by decide +kernel
theorem dX6_numbers_86 : decode cX6_numbers 86 = .ok (.aload_n 0, 1) := by decide +kernel
theorem dX6_numbers_87 : decode cX6_numbers 87 = .ok (.getfield 78, 3) := by decide +kernel
theorem dX6_numbers_90 : decode cX6_numbers 90 = .ok (.invokevirtual 81, 3) := by decide +kernel
theorem dX6_numbers_93 : decode cX6_numbers 93 = .ok (.iload_n 2, 1) := by decide +kernel
theorem dX6_numbers_94 : decode cX6_numbers 94 = .ok (.iload_n 1, 1) := by decide +kernel
theorem dX6_numbers_95 : decode cX6_numbers 95 = .ok (.iconst 1, 1) := by decide +kernel
theorem dX6_numbers_96 : decode cX6_numbers 96 = .ok (.isub, 1) := by decide +kernel
theorem dX6_numbers_97 : decode cX6_numbers 97 = .ok (.if_icmp .ge 8, 3) := by decide +kernel
theorem dX6_numbers_100 : decode cX6_numbers 100 = .ok (.bipush 44, 2) := by decide +kernel
theorem dX6_numbers_102 : decode cX6_numbers 102 = .ok (.goto 5, 3) := by decide +kernel
theorem dX6_numbers_105 : decode cX6_numbers 105 = .ok (.bipush 59, 2) := by decide +kernel
theorem dX6_numbers_107 : decode cX6_numbers 107 = .ok (.if_icmp .eq 5, 3) := by decide +kernel
theorem dX6_numbers_110 : decode cX6_numbers 110 = .ok (.iconst 0, 1) := by decide +kernel
theorem dX6_numbers_111 : decode cX6_numbers 111 = .ok (.ireturn, 1) := by decide +kernel
theorem dX6_numbers_112 : decode cX6_numbers 112 = .ok (.aload_n 0, 1) := by decide +kernel
theorem dX6_numbers_113 : decode cX6_numbers 113 = .ok (.getfield 34, 3) := by decide +kernel
theorem dX6_numbers_116 : decode cX6_numbers 116 = .ok (.iload_n 2, 1) := by decide +kernel
theorem dX6_numbers_117 : decode cX6_numbers 117 = .ok (.iload 4, 2) := by decide +kernel
theorem dX6_numbers_119 : decode cX6_numbers 119 = .ok (.iastore, 1) := by decide +kernel
theorem dX6_numbers_120 : decode cX6_numbers 120 = .ok (.aload_n 0, 1) := by decide +kernel
theorem dX6_numbers_121 : decode cX6_numbers 121 = .ok (.dup, 1) := by decide +kernel
theorem dX6_numbers_122 : decode cX6_numbers 122 = .ok (.getfield 78, 3) := by decide +kernel
theorem dX6_numbers_125 : decode cX6_numbers 125 = .ok (.iconst 1, 1) := by decide +kernel
theorem dX6_numbers_126 : decode cX6_numbers 126 = .ok (.iadd, 1) := by decide +kernel
theorem dX6_numbers_127 : decode cX6_numbers 127 = .ok (.putfield 78, 3) := by decide +kernel
theorem dX6_numbers_130 : decode cX6_numbers 130 = .ok (.iinc 2 1, 3) := by decide +kernel
theorem dX6_numbers_133 : decode cX6_numbers 133 = .ok (.goto (-131), 3) := by decide +kernel
theorem dX6_numbers_136 : decode cX6_numbers 136 = .ok (.iconst 1, 1) := by decide +kernel
theorem dX6_numbers_137 : decode cX6_numbers 137 = .ok (.ireturn, 1) := by decide +kernel
theorem dX6_thingItem_0 : decode cX6_thingItem 0 = .ok (.aload_n 0, 1) := by decide +kernel
theorem dX6_thingItem_1 : decode cX6_thingItem 1 = .ok (.getfield 16, 3) := by decide +kernel
theorem dX6_thingItem_4 : decode cX6_thingItem 4 = .ok (.iconst 3, 1) := by decide +kernel
theorem dX6_thingItem_5 : decode cX6_thingItem 5 = .ok (.iaload, 1) := by decide +kernel
theorem dX6_thingItem_6 : decode cX6_thingItem 6 = .ok (.istore_n 1, 1) := by decide +kernel
theorem dX6_thingItem_7 : decode cX6_thingItem 7 = .ok (.aload_n 0, 1) := by decide +kernel
theorem dX6_thingItem_8 : decode cX6_thingItem 8 = .ok (.iconst 4, 1) := by decide +kernel
theorem dX6_thingItem_9 : decode cX6_thingItem 9 = .ok (.invokevirtual 91, 3) := by decide +kernel
theorem dX6_thingItem_12 : decode cX6_thingItem 12 = .ok (.ifCond .eq 70, 3) := by decide +kernel
theorem dX6_thingItem_15 : decode cX6_thingItem 15 = .ok (.iload_n 1, 1) := by decide +kernel
theorem dX6_thingItem_16 : decode cX6_thingItem 16 = .ok (.bipush 7, 2) := by decide +kernel
theorem dX6_thingItem_18 : decode cX6_thingItem 18 = .ok (.if_icmp .eq 64, 3) := by decide +kernel
theorem dX6_thingItem_21 : decode cX6_thingItem 21 = .ok (.aload_n 0, 1) := by decide +kernel
theorem dX6_thingItem_22 : decode cX6_thingItem 22 = .ok (.getfield 34, 3) := by decide +kernel
theorem dX6_thingItem_25 : decode cX6_thingItem 25 = .ok (.iconst 0, 1) := by decide +kernel
theorem dX6_thingItem_26 : decode cX6_thingItem 26 = .ok (.iaload, 1) := by decide +kernel
theorem dX6_thingItem_27 : decode cX6_thingItem 27 = .ok (.iconst 3, 1) := by decide +kernel
theorem dX6_thingItem_28 : decode cX6_thingItem 28 = .ok (.if_icmp .gt 54, 3) := by decide +kernel
theorem dX6_thingItem_31 : decode cX6_thingItem 31 = .ok (.aload_n 0, 1) := by decide +kernel
theorem dX6_thingItem_32 : decode cX6_thingItem 32 = .ok (.getfield 34, 3) := by decide +kernel
theorem dX6_thingItem_35 : decode cX6_thingItem 35 = .ok (.iconst 1, 1) := by decide +kernel
theorem dX6_thingItem_36 : decode cX6_thingItem 36 = .ok (.iaload, 1) := by decide +kernel
theorem dX6_thingItem_37 : decode cX6_thingItem 37 = .ok (.i2l, 1) := by decide +kernel
theorem dX6_thingItem_38 : decode cX6_thingItem 38 = .ok (.lconst 1, 1) := by decide +kernel
theorem dX6_thingItem_39 : decode cX6_thingItem 39 = .ok (.ldc2_w 95, 3) := by decide +kernel
theorem dX6_thingItem_42 : decode cX6_thingItem 42 = .ok (.invokestatic 70, 3) := by decide +kernel
theorem dX6_thingItem_45 : decode cX6_thingItem 45 = .ok (.ifCond .eq 37, 3) := by decide +kernel
theorem dX6_thingItem_48 : decode cX6_thingItem 48 = .ok (.aload_n 0, 1) := by decide +kernel
theorem dX6_thingItem_49 : decode cX6_thingItem 49 = .ok (.getfield 34, 3) := by decide +kernel
theorem dX6_thingItem_52 : decode cX6_thingItem 52 = .ok (.iconst 2, 1) := by decide +kernel
theorem dX6_thingItem_53 : decode cX6_thingItem 53 = .ok (.iaload, 1) := by decide +kernel
theorem dX6_thingItem_54 : decode cX6_thingItem 54 = .ok (.i2l, 1) := by decide +kernel
theorem dX6_thingItem_55 : decode cX6_thingItem 55 = .ok (.lconst 1, 1) := by decide +kernel
theorem dX6_thingItem_56 : decode cX6_thingItem 56 = .ok (.ldc2_w 97, 3) := by decide +kernel
theorem dX6_thingItem_59 : decode cX6_thingItem 59 = .ok (.invokestatic 70, 3) := by decide +kernel
theorem dX6_thingItem_62 : decode cX6_thingItem 62 = .ok (.ifCond .eq 20, 3) := by decide +kernel
theorem dX6_thingItem_65 : decode cX6_thingItem 65 = .ok (.aload_n 0, 1) := by decide +kernel
theorem dX6_thingItem_66 : decode cX6_thingItem 66 = .ok (.getfield 34, 3) := by decide +kernel
theorem dX6_thingItem_69 : decode cX6_thingItem 69 = .ok (.iconst 3, 1) := by decide +kernel
theorem dX6_thingItem_70 : decode cX6_thingItem 70 = .ok (.iaload, 1) := by decide +kernel
theorem dX6_thingItem_71 : decode cX6_thingItem 71 = .ok (.i2l, 1) := by decide +kernel
theorem dX6_thingItem_72 : decode cX6_thingItem 72 = .ok (.lconst 1, 1) := by decide +kernel
theorem dX6_thingItem_73 : decode cX6_thingItem 73 = .ok (.ldc2_w 97, 3) := by decide +kernel
theorem dX6_thingItem_76 : decode cX6_thingItem 76 = .ok (.invokestatic 70, 3) := by decide +kernel
theorem dX6_thingItem_79 : decode cX6_thingItem 79 = .ok (.ifCond .ne 5, 3) := by decide +kernel
theorem dX6_thingItem_82 : decode cX6_thingItem 82 = .ok (.iconst 0, 1) := by decide +kernel
theorem dX6_thingItem_83 : decode cX6_thingItem 83 = .ok (.ireturn, 1) := by decide +kernel
theorem dX6_thingItem_84 : decode cX6_thingItem 84 = .ok (.aload_n 0, 1) := by decide +kernel
theorem dX6_thingItem_85 : decode cX6_thingItem 85 = .ok (.getfield 16, 3) := by decide +kernel
theorem dX6_thingItem_88 : decode cX6_thingItem 88 = .ok (.iconst 4, 1) := by decide +kernel
theorem dX6_thingItem_89 : decode cX6_thingItem 89 = .ok (.iload_n 1, 1) := by decide +kernel
theorem dX6_thingItem_90 : decode cX6_thingItem 90 = .ok (.iadd, 1) := by decide +kernel
theorem dX6_thingItem_91 : decode cX6_thingItem 91 = .ok (.aload_n 0, 1) := by decide +kernel
theorem dX6_thingItem_92 : decode cX6_thingItem 92 = .ok (.getfield 34, 3) := by decide +kernel
theorem dX6_thingItem_95 : decode cX6_thingItem 95 = .ok (.iconst 0, 1) := by decide +kernel
theorem dX6_thingItem_96 : decode cX6_thingItem 96 = .ok (.iaload, 1) := by decide +kernel
theorem dX6_thingItem_97 : decode cX6_thingItem 97 = .ok (.iastore, 1) := by decide +kernel
theorem dX6_thingItem_98 : decode cX6_thingItem 98 = .ok (.aload_n 0, 1) := by decide +kernel
theorem dX6_thingItem_99 : decode cX6_thingItem 99 = .ok (.getfield 16, 3) := by decide +kernel
theorem dX6_thingItem_102 : decode cX6_thingItem 102 = .ok (.bipush 11, 2) := by decide +kernel
theorem dX6_thingItem_104 : decode cX6_thingItem 104 = .ok (.iload_n 1, 1) := by decide +kernel
theorem dX6_thingItem_105 : decode cX6_thingItem 105 = .ok (.iadd, 1) := by decide +kernel
theorem dX6_thingItem_106 : decode cX6_thingItem 106 = .ok (.aload_n 0, 1) := by decide +kernel
theorem dX6_thingItem_107 : decode cX6_thingItem 107 = .ok (.getfield 34, 3) := by decide +kernel
theorem dX6_thingItem_110 : decode cX6_thingItem 110 = .ok (.iconst 1, 1) := by decide +kernel
theorem dX6_thingItem_111 : decode cX6_thingItem 111 = .ok (.iaload, 1) := by decide +kernel
theorem dX6_thingItem_112 : decode cX6_thingItem 112 = .ok (.iastore, 1) := by decide +kernel
theorem dX6_thingItem_113 : decode cX6_thingItem 113 = .ok (.aload_n 0, 1) := by decide +kernel
theorem dX6_thingItem_114 : decode cX6_thingItem 114 = .ok (.getfield 16, 3) := by decide +kernel
theorem dX6_thingItem_117 : decode cX6_thingItem 117 = .ok (.bipush 18, 2) := by decide +kernel
theorem dX6_thingItem_119 : decode cX6_thingItem 119 = .ok (.iload_n 1, 1) := by decide +kernel
theorem dX6_thingItem_120 : decode cX6_thingItem 120 = .ok (.iadd, 1) := by decide +kernel
theorem dX6_thingItem_121 : decode cX6_thingItem 121 = .ok (.aload_n 0, 1) := by decide +kernel
theorem dX6_thingItem_122 : decode cX6_thingItem 122 = .ok (.getfield 34, 3) := by decide +kernel
theorem dX6_thingItem_125 : decode cX6_thingItem 125 = .ok (.iconst 2, 1) := by decide +kernel
theorem dX6_thingItem_126 : decode cX6_thingItem 126 = .ok (.iaload, 1) := by decide +kernel
theorem dX6_thingItem_127 : decode cX6_thingItem 127 = .ok (.iastore, 1) := by decide +kernel
theorem dX6_thingItem_128 : decode cX6_thingItem 128 = .ok (.aload_n 0, 1) := by decide +kernel
theorem dX6_thingItem_129 : decode cX6_thingItem 129 = .ok (.getfield 16, 3) := by decide +kernel
theorem dX6_thingItem_132 : decode cX6_thingItem 132 = .ok (.bipush 25, 2) := by decide +kernel
theorem dX6_thingItem_134 : decode cX6_thingItem 134 = .ok (.iload_n 1, 1) := by decide +kernel
theorem dX6_thingItem_135 : decode cX6_thingItem 135 = .ok (.iadd, 1) := by decide +kernel
theorem dX6_thingItem_136 : decode cX6_thingItem 136 = .ok (.aload_n 0, 1) := by decide +kernel
theorem dX6_thingItem_137 : decode cX6_thingItem 137 = .ok (.getfield 34, 3) := by decide +kernel
theorem dX6_thingItem_140 : decode cX6_thingItem 140 = .ok (.iconst 3, 1) := by decide +kernel
theorem dX6_thingItem_141 : decode cX6_thingItem 141 = .ok (.iaload, 1) := by decide +kernel
theorem dX6_thingItem_142 : decode cX6_thingItem 142 = .ok (.iastore, 1) := by decide +kernel
theorem dX6_thingItem_143 : decode cX6_thingItem 143 = .ok (.aload_n 0, 1) := by decide +kernel
theorem dX6_thingItem_144 : decode cX6_thingItem 144 = .ok (.getfield 16, 3) := by decide +kernel
theorem dX6_thingItem_147 : decode cX6_thingItem 147 = .ok (.iconst 3, 1) := by decide +kernel
theorem dX6_thingItem_148 : decode cX6_thingItem 148 = .ok (.dup2, 1) := by decide +kernel
theorem dX6_thingItem_149 : decode cX6_thingItem 149 = .ok (.iaload, 1) := by decide +kernel
theorem dX6_thingItem_150 : decode cX6_thingItem 150 = .ok (.iconst 1, 1) := by decide +kernel
theorem dX6_thingItem_151 : decode cX6_thingItem 151 = .ok (.iadd, 1) := by decide +kernel
theorem dX6_thingItem_152 : decode cX6_thingItem 152 = .ok (.iastore, 1) := by decide +kernel
theorem dX6_thingItem_153 : decode cX6_thingItem 153 = .ok (.iconst 1, 1) := by decide +kernel
theorem dX6_thingItem_154 : decode cX6_thingItem 154 = .ok (.ireturn, 1) := by decide +kernel
theorem dX6_placeItem_0 : decode cX6_placeItem 0 = .ok (.aload_n 0, 1) := by decide +kernel
theorem dX6_placeItem_1 : decode cX6_placeItem 1 = .ok (.iconst 3, 1) := by decide +kernel
theorem dX6_placeItem_2 : decode cX6_placeItem 2 = .ok (.invokevirtual 91, 3) := by decide +kernel
theorem dX6_placeItem_5 : decode cX6_placeItem 5 = .ok (.ifCond .eq 44, 3) := by decide +kernel
theorem dX6_placeItem_8 : decode cX6_placeItem 8 = .ok (.aload_n 0, 1) := by decide +kernel
theorem dX6_placeItem_9 : decode cX6_placeItem 9 = .ok (.getfield 34, 3) := by decide +kernel
theorem dX6_placeItem_12 : decode cX6_placeItem 12 = .ok (.iconst 0, 1) := by decide +kernel
theorem dX6_placeItem_13 : decode cX6_placeItem 13 = .ok (.iaload, 1) := by decide +kernel
theorem dX6_placeItem_14 : decode cX6_placeItem 14 = .ok (.aload_n 0, 1) := by decide +kernel
theorem dX6_placeItem_15 : decode cX6_placeItem 15 = .ok (.getfield 16, 3) := by decide +kernel
theorem dX6_placeItem_18 : decode cX6_placeItem 18 = .ok (.iconst 3, 1) := by decide +kernel
theorem dX6_placeItem_19 : decode cX6_placeItem 19 = .ok (.iaload, 1) := by decide +kernel
theorem dX6_placeItem_20 : decode cX6_placeItem 20 = .ok (.if_icmp .ge 29, 3) := by decide +kernel
theorem dX6_placeItem_23 : decode cX6_placeItem 23 = .ok (.aload_n 0, 1) := by decide +kernel
theorem dX6_placeItem_24 : decode cX6_placeItem 24 = .ok (.getfield 34, 3) := by decide +kernel
theorem dX6_placeItem_27 : decode cX6_placeItem 27 = .ok (.iconst 2, 1) := by decide +kernel
theorem dX6_placeItem_28 : decode cX6_placeItem 28 = .ok (.iaload, 1) := by decide +kernel
theorem dX6_placeItem_29 : decode cX6_placeItem 29 = .ok (.iconst 1, 1) := by decide +kernel
theorem dX6_placeItem_30 : decode cX6_placeItem 30 = .ok (.if_icmp .gt 19, 3) := by decide +kernel
theorem dX6_placeItem_33 : decode cX6_placeItem 33 = .ok (.aload_n 0, 1) := by decide +kernel
theorem dX6_placeItem_34 : decode cX6_placeItem 34 = .ok (.getfield 22, 3) := by decide +kernel
theorem dX6_placeItem_37 : decode cX6_placeItem 37 = .ok (.iconst 2, 1) := by decide +kernel
theorem dX6_placeItem_38 : decode cX6_placeItem 38 = .ok (.aload_n 0, 1) := by decide +kernel
theorem dX6_placeItem_39 : decode cX6_placeItem 39 = .ok (.getfield 34, 3) := by decide +kernel
theorem dX6_placeItem_42 : decode cX6_placeItem 42 = .ok (.iconst 0, 1) := by decide +kernel
theorem dX6_placeItem_43 : decode cX6_placeItem 43 = .ok (.iaload, 1) := by decide +kernel
theorem dX6_placeItem_44 : decode cX6_placeItem 44 = .ok (.iadd, 1) := by decide +kernel
theorem dX6_placeItem_45 : decode cX6_placeItem 45 = .ok (.iaload, 1) := by decide +kernel
theorem dX6_placeItem_46 : decode cX6_placeItem 46 = .ok (.ifCond .lt 5, 3) := by decide +kernel
theorem dX6_placeItem_49 : decode cX6_placeItem 49 = .ok (.iconst 0, 1) := by decide +kernel
theorem dX6_placeItem_50 : decode cX6_placeItem 50 = .ok (.ireturn, 1) := by decide +kernel
theorem dX6_placeItem_51 : decode cX6_placeItem 51 = .ok (.aload_n 0, 1) := by decide +kernel
theorem dX6_placeItem_52 : decode cX6_placeItem 52 = .ok (.getfield 34, 3) := by decide +kernel
theorem dX6_placeItem_55 : decode cX6_placeItem 55 = .ok (.iconst 1, 1) := by decide +kernel
theorem dX6_placeItem_56 : decode cX6_placeItem 56 = .ok (.iaload, 1) := by decide +kernel
theorem dX6_placeItem_57 : decode cX6_placeItem 57 = .ok (.aload_n 0, 1) := by decide +kernel
theorem dX6_placeItem_58 : decode cX6_placeItem 58 = .ok (.getfield 16, 3) := by decide +kernel
theorem dX6_placeItem_61 : decode cX6_placeItem 61 = .ok (.bipush 11, 2) := by decide +kernel
theorem dX6_placeItem_63 : decode cX6_placeItem 63 = .ok (.aload_n 0, 1) := by decide +kernel
theorem dX6_placeItem_64 : decode cX6_placeItem 64 = .ok (.getfield 34, 3) := by decide +kernel
theorem dX6_placeItem_67 : decode cX6_placeItem 67 = .ok (.iconst 0, 1) := by decide +kernel
theorem dX6_placeItem_68 : decode cX6_placeItem 68 = .ok (.iaload, 1) := by decide +kernel
theorem dX6_placeItem_69 : decode cX6_placeItem 69 = .ok (.iadd, 1) := by decide +kernel
theorem dX6_placeItem_70 : decode cX6_placeItem 70 = .ok (.iaload, 1) := by decide +kernel
theorem dX6_placeItem_71 : decode cX6_placeItem 71 = .ok (.iadd, 1) := by decide +kernel
theorem dX6_placeItem_72 : decode cX6_placeItem 72 = .ok (.istore_n 1, 1) := by decide +kernel
theorem dX6_placeItem_73 : decode cX6_placeItem 73 = .ok (.iconst 0, 1) := by decide +kernel
theorem dX6_placeItem_74 : decode cX6_placeItem 74 = .ok (.istore_n 2, 1) := by decide +kernel
theorem dX6_placeItem_75 : decode cX6_placeItem 75 = .ok (.iload_n 2, 1) := by decide +kernel
theorem dX6_placeItem_76 : decode cX6_placeItem 76 = .ok (.bipush 7, 2) := by decide +kernel
theorem dX6_placeItem_78 : decode cX6_placeItem 78 = .ok (.if_icmp .ge 49, 3) := by decide +kernel
theorem dX6_placeItem_81 : decode cX6_placeItem 81 = .ok (.aload_n 0, 1) := by decide +kernel
theorem dX6_placeItem_82 : decode cX6_placeItem 82 = .ok (.getfield 22, 3) := by decide +kernel
theorem dX6_placeItem_85 : decode cX6_placeItem 85 = .ok (.iconst 2, 1) := by decide +kernel
theorem dX6_placeItem_86 : decode cX6_placeItem 86 = .ok (.iload_n 2, 1) := by decide +kernel
theorem dX6_placeItem_87 : decode cX6_placeItem 87 = .ok (.iadd, 1) := by decide +kernel
theorem dX6_placeItem_88 : decode cX6_placeItem 88 = .ok (.iaload, 1) := by decide +kernel
theorem dX6_placeItem_89 : decode cX6_placeItem 89 = .ok (.istore_n 3, 1) := by decide +kernel
theorem dX6_placeItem_90 : decode cX6_placeItem 90 = .ok (.iload_n 3, 1) := by decide +kernel
theorem dX6_placeItem_91 : decode cX6_placeItem 91 = .ok (.ifCond .lt 30, 3) := by decide +kernel
theorem dX6_placeItem_94 : decode cX6_placeItem 94 = .ok (.iload_n 3, 1) := by decide +kernel
theorem dX6_placeItem_95 : decode cX6_placeItem 95 = .ok (.iload_n 1, 1) := by decide +kernel
theorem dX6_placeItem_96 : decode cX6_placeItem 96 = .ok (.if_icmp .ge 25, 3) := by decide +kernel
theorem dX6_placeItem_99 : decode cX6_placeItem 99 = .ok (.aload_n 0, 1) := by decide +kernel
theorem dX6_placeItem_100 : decode cX6_placeItem 100 = .ok (.getfield 34, 3) := by decide +kernel
theorem dX6_placeItem_103 : decode cX6_placeItem 103 = .ok (.iconst 1, 1) := by decide +kernel
theorem dX6_placeItem_104 : decode cX6_placeItem 104 = .ok (.iaload, 1) := by decide +kernel
theorem dX6_placeItem_105 : decode cX6_placeItem 105 = .ok (.iload_n 3, 1) := by decide +kernel
theorem dX6_placeItem_106 : decode cX6_placeItem 106 = .ok (.aload_n 0, 1) := by decide +kernel
theorem dX6_placeItem_107 : decode cX6_placeItem 107 = .ok (.getfield 16, 3) := by decide +kernel
theorem dX6_placeItem_110 : decode cX6_placeItem 110 = .ok (.bipush 11, 2) := by decide +kernel
theorem dX6_placeItem_112 : decode cX6_placeItem 112 = .ok (.iload_n 2, 1) := by decide +kernel
theorem dX6_placeItem_113 : decode cX6_placeItem 113 = .ok (.iadd, 1) := by decide +kernel
theorem dX6_placeItem_114 : decode cX6_placeItem 114 = .ok (.iaload, 1) := by decide +kernel
theorem dX6_placeItem_115 : decode cX6_placeItem 115 = .ok (.iadd, 1) := by decide +kernel
theorem dX6_placeItem_116 : decode cX6_placeItem 116 = .ok (.if_icmp .ge 5, 3) := by decide +kernel
theorem dX6_placeItem_119 : decode cX6_placeItem 119 = .ok (.iconst 0, 1) := by decide +kernel
theorem dX6_placeItem_120 : decode cX6_placeItem 120 = .ok (.ireturn, 1) := by decide +kernel
theorem dX6_placeItem_121 : decode cX6_placeItem 121 = .ok (.iinc 2 1, 3) := by decide +kernel
theorem dX6_placeItem_124 : decode cX6_placeItem 124 = .ok (.goto (-49), 3) := by decide +kernel
theorem dX6_placeItem_127 : decode cX6_placeItem 127 = .ok (.aload_n 0, 1) := by decide +kernel
theorem dX6_placeItem_128 : decode cX6_placeItem 128 = .ok (.getfield 22, 3) := by decide +kernel
theorem dX6_placeItem_131 : decode cX6_placeItem 131 = .ok (.iconst 2, 1) := by decide +kernel
theorem dX6_placeItem_132 : decode cX6_placeItem 132 = .ok (.aload_n 0, 1) := by decide +kernel
theorem dX6_placeItem_133 : decode cX6_placeItem 133 = .ok (.getfield 34, 3) := by decide +kernel
theorem dX6_placeItem_136 : decode cX6_placeItem 136 = .ok (.iconst 0, 1) := by decide +kernel
theorem dX6_placeItem_137 : decode cX6_placeItem 137 = .ok (.iaload, 1) := by decide +kernel
theorem dX6_placeItem_138 : decode cX6_placeItem 138 = .ok (.iadd, 1) := by decide +kernel
theorem dX6_placeItem_139 : decode cX6_placeItem 139 = .ok (.aload_n 0, 1) := by decide +kernel
theorem dX6_placeItem_140 : decode cX6_placeItem 140 = .ok (.getfield 34, 3) := by decide +kernel
theorem dX6_placeItem_143 : decode cX6_placeItem 143 = .ok (.iconst 1, 1) := by decide +kernel
theorem dX6_placeItem_144 : decode cX6_placeItem 144 = .ok (.iaload, 1) := by decide +kernel
theorem dX6_placeItem_145 : decode cX6_placeItem 145 = .ok (.iastore, 1) := by decide +kernel
theorem dX6_placeItem_146 : decode cX6_placeItem 146 = .ok (.aload_n 0, 1) := by decide +kernel
theorem dX6_placeItem_147 : decode cX6_placeItem 147 = .ok (.getfield 22, 3) := by decide +kernel
theorem dX6_placeItem_150 : decode cX6_placeItem 150 = .ok (.bipush 9, 2) := by decide +kernel
theorem dX6_placeItem_152 : decode cX6_placeItem 152 = .ok (.aload_n 0, 1) := by decide +kernel
theorem dX6_placeItem_153 : decode cX6_placeItem 153 = .ok (.getfield 34, 3) := by decide +kernel
theorem dX6_placeItem_156 : decode cX6_placeItem 156 = .ok (.iconst 0, 1) := by decide +kernel
theorem dX6_placeItem_157 : decode cX6_placeItem 157 = .ok (.iaload, 1) := by decide +kernel
theorem dX6_placeItem_158 : decode cX6_placeItem 158 = .ok (.iadd, 1) := by decide +kernel
theorem dX6_placeItem_159 : decode cX6_placeItem 159 = .ok (.aload_n 0, 1) := by decide +kernel
theorem dX6_placeItem_160 : decode cX6_placeItem 160 = .ok (.getfield 34, 3) := by decide +kernel
theorem dX6_placeItem_163 : decode cX6_placeItem 163 = .ok (.iconst 2, 1) := by decide +kernel
theorem dX6_placeItem_164 : decode cX6_placeItem 164 = .ok (.iaload, 1) := by decide +kernel
theorem dX6_placeItem_165 : decode cX6_placeItem 165 = .ok (.iastore, 1) := by decide +kernel
theorem dX6_placeItem_166 : decode cX6_placeItem 166 = .ok (.iload_n 1, 1) := by decide +kernel
theorem dX6_placeItem_167 : decode cX6_placeItem 167 = .ok (.aload_n 0, 1) := by decide +kernel
theorem dX6_placeItem_168 : decode cX6_placeItem 168 = .ok (.getfield 16, 3) := by decide +kernel
theorem dX6_placeItem_171 : decode cX6_placeItem 171 = .ok (.iconst 0, 1) := by decide +kernel
theorem dX6_placeItem_172 : decode cX6_placeItem 172 = .ok (.iaload, 1) := by decide +kernel
theorem dX6_placeItem_173 : decode cX6_placeItem 173 = .ok (.if_icmp .gt 7, 3) := by decide +kernel
theorem dX6_placeItem_176 : decode cX6_placeItem 176 = .ok (.iconst 1, 1) := by decide +kernel
theorem dX6_placeItem_177 : decode cX6_placeItem 177 = .ok (.goto 4, 3) := by decide +kernel
theorem dX6_placeItem_180 : decode cX6_placeItem 180 = .ok (.iconst 0, 1) := by decide +kernel
theorem dX6_placeItem_181 : decode cX6_placeItem 181 = .ok (.ireturn, 1) := by decide +kernel
theorem dX6_item_0 : decode cX6_item 0 = .ok (.aload_n 0, 1) := by decide +kernel
theorem dX6_item_1 : decode cX6_item 1 = .ok (.aload_n 0, 1) := by decide +kernel
theorem dX6_item_2 : decode cX6_item 2 = .ok (.getfield 78, 3) := by decide +kernel
theorem dX6_item_5 : decode cX6_item 5 = .ok (.invokevirtual 81, 3) := by decide +kernel
theorem dX6_item_8 : decode cX6_item 8 = .ok (.istore_n 1, 1) := by decide +kernel
theorem dX6_item_9 : decode cX6_item 9 = .ok (.aload_n 0, 1) := by decide +kernel
theorem dX6_item_10 : decode cX6_item 10 = .ok (.dup, 1) := by decide +kernel
theorem dX6_item_11 : decode cX6_item 11 = .ok (.getfield 78, 3) := by decide +kernel
theorem dX6_item_14 : decode cX6_item 14 = .ok (.iconst 1, 1) := by decide +kernel
theorem dX6_item_15 : decode cX6_item 15 = .ok (.iadd, 1) := by decide +kernel
theorem dX6_item_16 : decode cX6_item 16 = .ok (.putfield 78, 3) := by decide +kernel
theorem dX6_item_19 : decode cX6_item 19 = .ok (.iload_n 1, 1) := by decide +kernel
theorem dX6_item_20 : decode cX6_item 20 = .ok (.bipush 110, 2) := by decide +kernel
theorem dX6_item_22 : decode cX6_item 22 = .ok (.if_icmp .ne 84, 3) := by decide +kernel
theorem dX6_item_25 : decode cX6_item 25 = .ok (.aload_n 0, 1) := by decide +kernel
theorem dX6_item_26 : decode cX6_item 26 = .ok (.iconst 2, 1) := by decide +kernel
theorem dX6_item_27 : decode cX6_item 27 = .ok (.invokevirtual 91, 3) := by decide +kernel
theorem dX6_item_30 : decode cX6_item 30 = .ok (.ifCond .eq 48, 3) := by decide +kernel
theorem dX6_item_33 : decode cX6_item 33 = .ok (.aload_n 0, 1) := by decide +kernel
theorem dX6_item_34 : decode cX6_item 34 = .ok (.getfield 62, 3) := by decide +kernel
theorem dX6_item_37 : decode cX6_item 37 = .ok (.ifCond .ne 41, 3) := by decide +kernel
theorem dX6_item_40 : decode cX6_item 40 = .ok (.aload_n 0, 1) := by decide +kernel
theorem dX6_item_41 : decode cX6_item 41 = .ok (.getfield 34, 3) := by decide +kernel
theorem dX6_item_44 : decode cX6_item 44 = .ok (.iconst 0, 1) := by decide +kernel
theorem dX6_item_45 : decode cX6_item 45 = .ok (.iaload, 1) := by decide +kernel
theorem dX6_item_46 : decode cX6_item 46 = .ok (.i2l, 1) := by decide +kernel
theorem dX6_item_47 : decode cX6_item 47 = .ok (.ldc2_w 99, 3) := by decide +kernel
theorem dX6_item_50 : decode cX6_item 50 = .ok (.ldc2_w 101, 3) := by decide +kernel
theorem dX6_item_53 : decode cX6_item 53 = .ok (.invokestatic 70, 3) := by decide +kernel
theorem dX6_item_56 : decode cX6_item 56 = .ok (.ifCond .eq 22, 3) := by decide +kernel
theorem dX6_item_59 : decode cX6_item 59 = .ok (.aload_n 0, 1) := by decide +kernel
theorem dX6_item_60 : decode cX6_item 60 = .ok (.getfield 34, 3) := by decide +kernel
theorem dX6_item_63 : decode cX6_item 63 = .ok (.iconst 1, 1) := by decide +kernel
theorem dX6_item_64 : decode cX6_item 64 = .ok (.iaload, 1) := by decide +kernel
theorem dX6_item_65 : decode cX6_item 65 = .ok (.aload_n 0, 1) := by decide +kernel
theorem dX6_item_66 : decode cX6_item 66 = .ok (.getfield 34, 3) := by decide +kernel
theorem dX6_item_69 : decode cX6_item 69 = .ok (.iconst 0, 1) := by decide +kernel
theorem dX6_item_70 : decode cX6_item 70 = .ok (.iaload, 1) := by decide +kernel
theorem dX6_item_71 : decode cX6_item 71 = .ok (.if_icmp .ge 7, 3) := by decide +kernel
theorem dX6_item_74 : decode cX6_item 74 = .ok (.iconst 1, 1) := by decide +kernel
theorem dX6_item_75 : decode cX6_item 75 = .ok (.goto 4, 3) := by decide +kernel
theorem dX6_item_78 : decode cX6_item 78 = .ok (.iconst 0, 1) := by decide +kernel
theorem dX6_item_79 : decode cX6_item 79 = .ok (.istore_n 2, 1) := by decide +kernel
theorem dX6_item_80 : decode cX6_item 80 = .ok (.aload_n 0, 1) := by decide +kernel
theorem dX6_item_81 : decode cX6_item 81 = .ok (.getfield 16, 3) := by decide +kernel
theorem dX6_item_84 : decode cX6_item 84 = .ok (.iconst 0, 1) := by decide +kernel
theorem dX6_item_85 : decode cX6_item 85 = .ok (.aload_n 0, 1) := by decide +kernel
theorem dX6_item_86 : decode cX6_item 86 = .ok (.getfield 34, 3) := by decide +kernel
theorem dX6_item_89 : decode cX6_item 89 = .ok (.iconst 0, 1) := by decide +kernel
theorem dX6_item_90 : decode cX6_item 90 = .ok (.iaload, 1) := by decide +kernel
theorem dX6_item_91 : decode cX6_item 91 = .ok (.iastore, 1) := by decide +kernel
theorem dX6_item_92 : decode cX6_item 92 = .ok (.aload_n 0, 1) := by decide +kernel
theorem dX6_item_93 : decode cX6_item 93 = .ok (.getfield 16, 3) := by decide +kernel
theorem dX6_item_96 : decode cX6_item 96 = .ok (.iconst 1, 1) := by decide +kernel
theorem dX6_item_97 : decode cX6_item 97 = .ok (.aload_n 0, 1) := by decide +kernel
theorem dX6_item_98 : decode cX6_item 98 = .ok (.getfield 34, 3) := by decide +kernel
theorem dX6_item_101 : decode cX6_item 101 = .ok (.iconst 1, 1) := by decide +kernel
theorem dX6_item_102 : decode cX6_item 102 = .ok (.iaload, 1) := by decide +kernel
theorem dX6_item_103 : decode cX6_item 103 = .ok (.iastore, 1) := by decide +kernel
theorem dX6_item_104 : decode cX6_item 104 = .ok (.iload_n 2, 1) := by decide +kernel
theorem dX6_item_105 : decode cX6_item 105 = .ok (.ireturn, 1) := by decide +kernel
