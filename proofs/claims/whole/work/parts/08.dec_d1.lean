theorem dX6_item_106 : decode cX6_item 106 = .ok (.aload_n 0, 1) := by decide +kernel
theorem dX6_item_107 : decode cX6_item 107 = .ok (.iconst 1, 1) := by decide +kernel
theorem dX6_item_108 : decode cX6_item 108 = .ok (.putfield 62, 3) := by decide +kernel
theorem dX6_item_111 : decode cX6_item 111 = .ok (.iload_n 1, 1) := by decide +kernel
theorem dX6_item_112 : decode cX6_item 112 = .ok (.lookupswitch 196 #[(97, 62), (99, 144), (112, 57), (116, 52), (119, 103)], 52) := by decide +kernel
theorem dX6_item_164 : decode cX6_item 164 = .ok (.aload_n 0, 1) := by decide +kernel
theorem dX6_item_165 : decode cX6_item 165 = .ok (.invokevirtual 103, 3) := by decide +kernel
theorem dX6_item_168 : decode cX6_item 168 = .ok (.ireturn, 1) := by decide +kernel
theorem dX6_item_169 : decode cX6_item 169 = .ok (.aload_n 0, 1) := by decide +kernel
theorem dX6_item_170 : decode cX6_item 170 = .ok (.invokevirtual 107, 3) := by decide +kernel
theorem dX6_item_173 : decode cX6_item 173 = .ok (.ireturn, 1) := by decide +kernel
theorem dX6_item_174 : decode cX6_item 174 = .ok (.aload_n 0, 1) := by decide +kernel
theorem dX6_item_175 : decode cX6_item 175 = .ok (.iconst 1, 1) := by decide +kernel
theorem dX6_item_176 : decode cX6_item 176 = .ok (.invokevirtual 91, 3) := by decide +kernel
theorem dX6_item_179 : decode cX6_item 179 = .ok (.ifCond .eq 20, 3) := by decide +kernel
theorem dX6_item_182 : decode cX6_item 182 = .ok (.aload_n 0, 1) := by decide +kernel
theorem dX6_item_183 : decode cX6_item 183 = .ok (.getfield 34, 3) := by decide +kernel
theorem dX6_item_186 : decode cX6_item 186 = .ok (.iconst 0, 1) := by decide +kernel
theorem dX6_item_187 : decode cX6_item 187 = .ok (.iaload, 1) := by decide +kernel
theorem dX6_item_188 : decode cX6_item 188 = .ok (.i2l, 1) := by decide +kernel
theorem dX6_item_189 : decode cX6_item 189 = .ok (.lconst 1, 1) := by decide +kernel
theorem dX6_item_190 : decode cX6_item 190 = .ok (.ldc2_w 97, 3) := by decide +kernel
theorem dX6_item_193 : decode cX6_item 193 = .ok (.invokestatic 70, 3) := by decide +kernel
theorem dX6_item_196 : decode cX6_item 196 = .ok (.ifCond .ne 5, 3) := by decide +kernel
theorem dX6_item_199 : decode cX6_item 199 = .ok (.iconst 0, 1) := by decide +kernel
theorem dX6_item_200 : decode cX6_item 200 = .ok (.ireturn, 1) := by decide +kernel
theorem dX6_item_201 : decode cX6_item 201 = .ok (.aload_n 0, 1) := by decide +kernel
theorem dX6_item_202 : decode cX6_item 202 = .ok (.getfield 16, 3) := by decide +kernel
theorem dX6_item_205 : decode cX6_item 205 = .ok (.iconst 2, 1) := by decide +kernel
theorem dX6_item_206 : decode cX6_item 206 = .ok (.aload_n 0, 1) := by decide +kernel
theorem dX6_item_207 : decode cX6_item 207 = .ok (.getfield 34, 3) := by decide +kernel
theorem dX6_item_210 : decode cX6_item 210 = .ok (.iconst 0, 1) := by decide +kernel
theorem dX6_item_211 : decode cX6_item 211 = .ok (.iaload, 1) := by decide +kernel
theorem dX6_item_212 : decode cX6_item 212 = .ok (.iastore, 1) := by decide +kernel
theorem dX6_item_213 : decode cX6_item 213 = .ok (.iconst 1, 1) := by decide +kernel
theorem dX6_item_214 : decode cX6_item 214 = .ok (.ireturn, 1) := by decide +kernel
theorem dX6_item_215 : decode cX6_item 215 = .ok (.aload_n 0, 1) := by decide +kernel
theorem dX6_item_216 : decode cX6_item 216 = .ok (.iconst 1, 1) := by decide +kernel
theorem dX6_item_217 : decode cX6_item 217 = .ok (.invokevirtual 91, 3) := by decide +kernel
theorem dX6_item_220 : decode cX6_item 220 = .ok (.ifCond .eq 20, 3) := by decide +kernel
theorem dX6_item_223 : decode cX6_item 223 = .ok (.aload_n 0, 1) := by decide +kernel
theorem dX6_item_224 : decode cX6_item 224 = .ok (.getfield 34, 3) := by decide +kernel
theorem dX6_item_227 : decode cX6_item 227 = .ok (.iconst 0, 1) := by decide +kernel
theorem dX6_item_228 : decode cX6_item 228 = .ok (.iaload, 1) := by decide +kernel
theorem dX6_item_229 : decode cX6_item 229 = .ok (.i2l, 1) := by decide +kernel
theorem dX6_item_230 : decode cX6_item 230 = .ok (.lconst 1, 1) := by decide +kernel
theorem dX6_item_231 : decode cX6_item 231 = .ok (.ldc2_w 97, 3) := by decide +kernel
theorem dX6_item_234 : decode cX6_item 234 = .ok (.invokestatic 70, 3) := by decide +kernel
theorem dX6_item_237 : decode cX6_item 237 = .ok (.ifCond .ne 5, 3) := by decide +kernel
theorem dX6_item_240 : decode cX6_item 240 = .ok (.iconst 0, 1) := by decide +kernel
theorem dX6_item_241 : decode cX6_item 241 = .ok (.ireturn, 1) := by decide +kernel
theorem dX6_item_242 : decode cX6_item 242 = .ok (.aload_n 0, 1) := by decide +kernel
theorem dX6_item_243 : decode cX6_item 243 = .ok (.getfield 22, 3) := by decide +kernel
theorem dX6_item_246 : decode cX6_item 246 = .ok (.iconst 0, 1) := by decide +kernel
theorem dX6_item_247 : decode cX6_item 247 = .ok (.aload_n 0, 1) := by decide +kernel
theorem dX6_item_248 : decode cX6_item 248 = .ok (.getfield 34, 3) := by decide +kernel
theorem dX6_item_251 : decode cX6_item 251 = .ok (.iconst 0, 1) := by decide +kernel
theorem dX6_item_252 : decode cX6_item 252 = .ok (.iaload, 1) := by decide +kernel
theorem dX6_item_253 : decode cX6_item 253 = .ok (.iastore, 1) := by decide +kernel
theorem dX6_item_254 : decode cX6_item 254 = .ok (.iconst 1, 1) := by decide +kernel
theorem dX6_item_255 : decode cX6_item 255 = .ok (.ireturn, 1) := by decide +kernel
theorem dX6_item_256 : decode cX6_item 256 = .ok (.aload_n 0, 1) := by decide +kernel
theorem dX6_item_257 : decode cX6_item 257 = .ok (.iconst 2, 1) := by decide +kernel
theorem dX6_item_258 : decode cX6_item 258 = .ok (.invokevirtual 91, 3) := by decide +kernel
theorem dX6_item_261 : decode cX6_item 261 = .ok (.ifCond .eq 23, 3) := by decide +kernel
theorem dX6_item_264 : decode cX6_item 264 = .ok (.aload_n 0, 1) := by decide +kernel
theorem dX6_item_265 : decode cX6_item 265 = .ok (.getfield 34, 3) := by decide +kernel
theorem dX6_item_268 : decode cX6_item 268 = .ok (.iconst 0, 1) := by decide +kernel
theorem dX6_item_269 : decode cX6_item 269 = .ok (.iaload, 1) := by decide +kernel
theorem dX6_item_270 : decode cX6_item 270 = .ok (.bipush 23, 2) := by decide +kernel
theorem dX6_item_272 : decode cX6_item 272 = .ok (.if_icmp .gt 12, 3) := by decide +kernel
theorem dX6_item_275 : decode cX6_item 275 = .ok (.aload_n 0, 1) := by decide +kernel
theorem dX6_item_276 : decode cX6_item 276 = .ok (.getfield 34, 3) := by decide +kernel
theorem dX6_item_279 : decode cX6_item 279 = .ok (.iconst 1, 1) := by decide +kernel
theorem dX6_item_280 : decode cX6_item 280 = .ok (.iaload, 1) := by decide +kernel
theorem dX6_item_281 : decode cX6_item 281 = .ok (.ifCond .ne 5, 3) := by decide +kernel
theorem dX6_item_284 : decode cX6_item 284 = .ok (.iconst 0, 1) := by decide +kernel
theorem dX6_item_285 : decode cX6_item 285 = .ok (.ireturn, 1) := by decide +kernel
theorem dX6_item_286 : decode cX6_item 286 = .ok (.aload_n 0, 1) := by decide +kernel
theorem dX6_item_287 : decode cX6_item 287 = .ok (.getfield 16, 3) := by decide +kernel
theorem dX6_item_290 : decode cX6_item 290 = .ok (.bipush 32, 2) := by decide +kernel
theorem dX6_item_292 : decode cX6_item 292 = .ok (.aload_n 0, 1) := by decide +kernel
theorem dX6_item_293 : decode cX6_item 293 = .ok (.getfield 34, 3) := by decide +kernel
theorem dX6_item_296 : decode cX6_item 296 = .ok (.iconst 0, 1) := by decide +kernel
theorem dX6_item_297 : decode cX6_item 297 = .ok (.iaload, 1) := by decide +kernel
theorem dX6_item_298 : decode cX6_item 298 = .ok (.iadd, 1) := by decide +kernel
theorem dX6_item_299 : decode cX6_item 299 = .ok (.aload_n 0, 1) := by decide +kernel
theorem dX6_item_300 : decode cX6_item 300 = .ok (.getfield 34, 3) := by decide +kernel
theorem dX6_item_303 : decode cX6_item 303 = .ok (.iconst 1, 1) := by decide +kernel
theorem dX6_item_304 : decode cX6_item 304 = .ok (.iaload, 1) := by decide +kernel
theorem dX6_item_305 : decode cX6_item 305 = .ok (.iastore, 1) := by decide +kernel
theorem dX6_item_306 : decode cX6_item 306 = .ok (.iconst 1, 1) := by decide +kernel
theorem dX6_item_307 : decode cX6_item 307 = .ok (.ireturn, 1) := by decide +kernel
theorem dX6_item_308 : decode cX6_item 308 = .ok (.iconst 0, 1) := by decide +kernel
theorem dX6_item_309 : decode cX6_item 309 = .ok (.ireturn, 1) := by decide +kernel
theorem dX6_readAll_0 : decode cX6_readAll 0 = .ok (.aload_n 0, 1) := by decide +kernel
theorem dX6_readAll_1 : decode cX6_readAll 1 = .ok (.invokevirtual 52, 3) := by decide +kernel
theorem dX6_readAll_4 : decode cX6_readAll 4 = .ok (.aload_n 0, 1) := by decide +kernel
theorem dX6_readAll_5 : decode cX6_readAll 5 = .ok (.iconst 0, 1) := by decide +kernel
theorem dX6_readAll_6 : decode cX6_readAll 6 = .ok (.putfield 78, 3) := by decide +kernel
theorem dX6_readAll_9 : decode cX6_readAll 9 = .ok (.aload_n 0, 1) := by decide +kernel
theorem dX6_readAll_10 : decode cX6_readAll 10 = .ok (.getfield 78, 3) := by decide +kernel
theorem dX6_readAll_13 : decode cX6_readAll 13 = .ok (.aload_n 0, 1) := by decide +kernel
theorem dX6_readAll_14 : decode cX6_readAll 14 = .ok (.getfield 74, 3) := by decide +kernel
theorem dX6_readAll_17 : decode cX6_readAll 17 = .ok (.if_icmp .ge 20, 3) := by decide +kernel
theorem dX6_readAll_20 : decode cX6_readAll 20 = .ok (.aload_n 0, 1) := by decide +kernel
theorem dX6_readAll_21 : decode cX6_readAll 21 = .ok (.getfield 78, 3) := by decide +kernel
theorem dX6_readAll_24 : decode cX6_readAll 24 = .ok (.istore_n 1, 1) := by decide +kernel
theorem dX6_readAll_25 : decode cX6_readAll 25 = .ok (.aload_n 0, 1) := by decide +kernel
theorem dX6_readAll_26 : decode cX6_readAll 26 = .ok (.invokevirtual 110, 3) := by decide +kernel
theorem dX6_readAll_29 : decode cX6_readAll 29 = .ok (.ifCond .ne 5, 3) := by decide +kernel
theorem dX6_readAll_32 : decode cX6_readAll 32 = .ok (.iload_n 1, 1) := by decide +kernel
theorem dX6_readAll_33 : decode cX6_readAll 33 = .ok (.ireturn, 1) := by decide +kernel
theorem dX6_readAll_34 : decode cX6_readAll 34 = .ok (.goto (-25), 3) := by decide +kernel
theorem dX6_readAll_37 : decode cX6_readAll 37 = .ok (.bipush (-4), 2) := by decide +kernel
theorem dX6_readAll_39 : decode cX6_readAll 39 = .ok (.ireturn, 1) := by decide +kernel
theorem dX6_fault_0 : decode cX6_fault 0 = .ok (.aload_n 0, 1) := by decide +kernel
theorem dX6_fault_1 : decode cX6_fault 1 = .ok (.invokevirtual 113, 3) := by decide +kernel
theorem dX6_fault_4 : decode cX6_fault 4 = .ok (.ireturn, 1) := by decide +kernel
theorem dX6_lay_0 : decode cX6_lay 0 = .ok (.aload_n 0, 1) := by decide +kernel
theorem dX6_lay_1 : decode cX6_lay 1 = .ok (.invokevirtual 113, 3) := by decide +kernel
theorem dX6_lay_4 : decode cX6_lay 4 = .ok (.bipush (-4), 2) := by decide +kernel
theorem dX6_lay_6 : decode cX6_lay 6 = .ok (.if_icmp .ne 12, 3) := by decide +kernel
theorem dX6_lay_9 : decode cX6_lay 9 = .ok (.aload_n 0, 1) := by decide +kernel
theorem dX6_lay_10 : decode cX6_lay 10 = .ok (.getfield 16, 3) := by decide +kernel
theorem dX6_lay_13 : decode cX6_lay 13 = .ok (.iconst 3, 1) := by decide +kernel
theorem dX6_lay_14 : decode cX6_lay 14 = .ok (.iaload, 1) := by decide +kernel
theorem dX6_lay_15 : decode cX6_lay 15 = .ok (.ifCond .ne 6, 3) := by decide +kernel
theorem dX6_lay_18 : decode cX6_lay 18 = .ok (.bipush (-2), 2) := by decide +kernel
theorem dX6_lay_20 : decode cX6_lay 20 = .ok (.ireturn, 1) := by decide +kernel
theorem dX6_lay_21 : decode cX6_lay 21 = .ok (.aload_n 0, 1) := by decide +kernel
theorem dX6_lay_22 : decode cX6_lay 22 = .ok (.invokevirtual 59, 3) := by decide +kernel
theorem dX6_lay_25 : decode cX6_lay 25 = .ok (.aload_n 0, 1) := by decide +kernel
theorem dX6_lay_26 : decode cX6_lay 26 = .ok (.getfield 13, 3) := by decide +kernel
theorem dX6_lay_29 : decode cX6_lay 29 = .ok (.iconst 3, 1) := by decide +kernel
theorem dX6_lay_30 : decode cX6_lay 30 = .ok (.iaload, 1) := by decide +kernel
theorem dX6_lay_31 : decode cX6_lay 31 = .ok (.ireturn, 1) := by decide +kernel
theorem dX6_begin_0 : decode cX6_begin 0 = .ok (.iconst 0, 1) := by decide +kernel
theorem dX6_begin_1 : decode cX6_begin 1 = .ok (.istore_n 1, 1) := by decide +kernel
theorem dX6_begin_2 : decode cX6_begin 2 = .ok (.iload_n 1, 1) := by decide +kernel
theorem dX6_begin_3 : decode cX6_begin 3 = .ok (.bipush 56, 2) := by decide +kernel
theorem dX6_begin_5 : decode cX6_begin 5 = .ok (.if_icmp .ge 21, 3) := by decide +kernel
theorem dX6_begin_8 : decode cX6_begin 8 = .ok (.aload_n 0, 1) := by decide +kernel
theorem dX6_begin_9 : decode cX6_begin 9 = .ok (.getfield 13, 3) := by decide +kernel
theorem dX6_begin_12 : decode cX6_begin 12 = .ok (.iload_n 1, 1) := by decide +kernel
theorem dX6_begin_13 : decode cX6_begin 13 = .ok (.aload_n 0, 1) := by decide +kernel
theorem dX6_begin_14 : decode cX6_begin 14 = .ok (.getfield 16, 3) := by decide +kernel
theorem dX6_begin_17 : decode cX6_begin 17 = .ok (.iload_n 1, 1) := by decide +kernel
theorem dX6_begin_18 : decode cX6_begin 18 = .ok (.iaload, 1) := by decide +kernel
theorem dX6_begin_19 : decode cX6_begin 19 = .ok (.iastore, 1) := by decide +kernel
theorem dX6_begin_20 : decode cX6_begin 20 = .ok (.iinc 1 1, 3) := by decide +kernel
theorem dX6_begin_23 : decode cX6_begin 23 = .ok (.goto (-21), 3) := by decide +kernel
theorem dX6_begin_26 : decode cX6_begin 26 = .ok (.iconst 0, 1) := by decide +kernel
theorem dX6_begin_27 : decode cX6_begin 27 = .ok (.istore_n 1, 1) := by decide +kernel
theorem dX6_begin_28 : decode cX6_begin 28 = .ok (.iload_n 1, 1) := by decide +kernel
theorem dX6_begin_29 : decode cX6_begin 29 = .ok (.bipush 16, 2) := by decide +kernel
theorem dX6_begin_31 : decode cX6_begin 31 = .ok (.if_icmp .ge 21, 3) := by decide +kernel
theorem dX6_begin_34 : decode cX6_begin 34 = .ok (.aload_n 0, 1) := by decide +kernel
theorem dX6_begin_35 : decode cX6_begin 35 = .ok (.getfield 19, 3) := by decide +kernel
theorem dX6_begin_38 : decode cX6_begin 38 = .ok (.iload_n 1, 1) := by decide +kernel
theorem dX6_begin_39 : decode cX6_begin 39 = .ok (.aload_n 0, 1) := by decide +kernel
theorem dX6_begin_40 : decode cX6_begin 40 = .ok (.getfield 22, 3) := by decide +kernel
theorem dX6_begin_43 : decode cX6_begin 43 = .ok (.iload_n 1, 1) := by decide +kernel
theorem dX6_begin_44 : decode cX6_begin 44 = .ok (.iaload, 1) := by decide +kernel
theorem dX6_begin_45 : decode cX6_begin 45 = .ok (.iastore, 1) := by decide +kernel
theorem dX6_begin_46 : decode cX6_begin 46 = .ok (.iinc 1 1, 3) := by decide +kernel
theorem dX6_begin_49 : decode cX6_begin 49 = .ok (.goto (-21), 3) := by decide +kernel
theorem dX6_begin_52 : decode cX6_begin 52 = .ok (.iconst 0, 1) := by decide +kernel
theorem dX6_begin_53 : decode cX6_begin 53 = .ok (.istore_n 1, 1) := by decide +kernel
theorem dX6_begin_54 : decode cX6_begin 54 = .ok (.iload_n 1, 1) := by decide +kernel
theorem dX6_begin_55 : decode cX6_begin 55 = .ok (.bipush 7, 2) := by decide +kernel
theorem dX6_begin_57 : decode cX6_begin 57 = .ok (.if_icmp .ge 17, 3) := by decide +kernel
theorem dX6_begin_60 : decode cX6_begin 60 = .ok (.aload_n 0, 1) := by decide +kernel
theorem dX6_begin_61 : decode cX6_begin 61 = .ok (.getfield 31, 3) := by decide +kernel
theorem dX6_begin_64 : decode cX6_begin 64 = .ok (.iload_n 1, 1) := by decide +kernel
theorem dX6_begin_65 : decode cX6_begin 65 = .ok (.bipush (-4), 2) := by decide +kernel
theorem dX6_begin_67 : decode cX6_begin 67 = .ok (.iastore, 1) := by decide +kernel
theorem dX6_begin_68 : decode cX6_begin 68 = .ok (.iinc 1 1, 3) := by decide +kernel
theorem dX6_begin_71 : decode cX6_begin 71 = .ok (.goto (-17), 3) := by decide +kernel
theorem dX6_begin_74 : decode cX6_begin 74 = .ok (.aload_n 0, 1) := by decide +kernel
theorem dX6_begin_75 : decode cX6_begin 75 = .ok (.iconst 0, 1) := by decide +kernel
theorem dX6_begin_76 : decode cX6_begin 76 = .ok (.putfield 117, 3) := by decide +kernel
theorem dX6_begin_79 : decode cX6_begin 79 = .ok (.aload_n 0, 1) := by decide +kernel
theorem dX6_begin_80 : decode cX6_begin 80 = .ok (.iconst 0, 1) := by decide +kernel
theorem dX6_begin_81 : decode cX6_begin 81 = .ok (.putfield 120, 3) := by decide +kernel
theorem dX6_begin_84 : decode cX6_begin 84 = .ok (.return_, 1) := by decide +kernel
theorem dX6_isThing_0 : decode cX6_isThing 0 = .ok (.iload_n 1, 1) := by decide +kernel
theorem dX6_isThing_1 : decode cX6_isThing 1 = .ok (.i2l, 1) := by decide +kernel
theorem dX6_isThing_2 : decode cX6_isThing 2 = .ok (.lconst 0, 1) := by decide +kernel
theorem dX6_isThing_3 : decode cX6_isThing 3 = .ok (.aload_n 0, 1) := by decide +kernel
theorem dX6_isThing_4 : decode cX6_isThing 4 = .ok (.getfield 13, 3) := by decide +kernel
theorem dX6_isThing_7 : decode cX6_isThing 7 = .ok (.iconst 3, 1) := by decide +kernel
theorem dX6_isThing_8 : decode cX6_isThing 8 = .ok (.iaload, 1) := by decide +kernel
theorem dX6_isThing_9 : decode cX6_isThing 9 = .ok (.iconst 1, 1) := by decide +kernel
theorem dX6_isThing_10 : decode cX6_isThing 10 = .ok (.isub, 1) := by decide +kernel
theorem dX6_isThing_11 : decode cX6_isThing 11 = .ok (.i2l, 1) := by decide +kernel
theorem dX6_isThing_12 : decode cX6_isThing 12 = .ok (.invokestatic 70, 3) := by decide +kernel
theorem dX6_isThing_15 : decode cX6_isThing 15 = .ok (.ireturn, 1) := by decide +kernel
theorem dX6_isSlot_0 : decode cX6_isSlot 0 = .ok (.iload_n 1, 1) := by decide +kernel
theorem dX6_isSlot_1 : decode cX6_isSlot 1 = .ok (.i2l, 1) := by decide +kernel
theorem dX6_isSlot_2 : decode cX6_isSlot 2 = .ok (.lconst 0, 1) := by decide +kernel
theorem dX6_isSlot_3 : decode cX6_isSlot 3 = .ok (.aload_n 0, 1) := by decide +kernel
theorem dX6_isSlot_4 : decode cX6_isSlot 4 = .ok (.getfield 13, 3) := by decide +kernel
theorem dX6_isSlot_7 : decode cX6_isSlot 7 = .ok (.iconst 0, 1) := by decide +kernel
theorem dX6_isSlot_8 : decode cX6_isSlot 8 = .ok (.iaload, 1) := by decide +kernel
theorem dX6_isSlot_9 : decode cX6_isSlot 9 = .ok (.iconst 1, 1) := by decide +kernel
theorem dX6_isSlot_10 : decode cX6_isSlot 10 = .ok (.isub, 1) := by decide +kernel
theorem dX6_isSlot_11 : decode cX6_isSlot 11 = .ok (.i2l, 1) := by decide +kernel
theorem dX6_isSlot_12 : decode cX6_isSlot 12 = .ok (.invokestatic 70, 3) := by decide +kernel
theorem dX6_isSlot_15 : decode cX6_isSlot 15 = .ok (.ireturn, 1) := by decide +kernel
theorem dX6_setSide_0 : decode cX6_setSide 0 = .ok (.aload_n 0, 1) := by decide +kernel
theorem dX6_setSide_1 : decode cX6_setSide 1 = .ok (.getfield 37, 3) := by decide +kernel
theorem dX6_setSide_4 : decode cX6_setSide 4 = .ok (.iload_n 1, 1) := by decide +kernel
theorem dX6_setSide_5 : decode cX6_setSide 5 = .ok (.iaload, 1) := by decide +kernel
theorem dX6_setSide_6 : decode cX6_setSide 6 = .ok (.aload_n 0, 1) := by decide +kernel
theorem dX6_setSide_7 : decode cX6_setSide 7 = .ok (.getfield 13, 3) := by decide +kernel
theorem dX6_setSide_10 : decode cX6_setSide 10 = .ok (.bipush 11, 2) := by decide +kernel
theorem dX6_setSide_12 : decode cX6_setSide 12 = .ok (.iload_n 1, 1) := by decide +kernel
theorem dX6_setSide_13 : decode cX6_setSide 13 = .ok (.iadd, 1) := by decide +kernel
theorem dX6_setSide_14 : decode cX6_setSide 14 = .ok (.iaload, 1) := by decide +kernel
theorem dX6_setSide_15 : decode cX6_setSide 15 = .ok (.iadd, 1) := by decide +kernel
theorem dX6_setSide_16 : decode cX6_setSide 16 = .ok (.iconst 1, 1) := by decide +kernel
theorem dX6_setSide_17 : decode cX6_setSide 17 = .ok (.isub, 1) := by decide +kernel
theorem dX6_setSide_18 : decode cX6_setSide 18 = .ok (.istore_n 2, 1) := by decide +kernel
theorem dX6_setSide_19 : decode cX6_setSide 19 = .ok (.aload_n 0, 1) := by decide +kernel
theorem dX6_setSide_20 : decode cX6_setSide 20 = .ok (.getfield 43, 3) := by decide +kernel
theorem dX6_setSide_23 : decode cX6_setSide 23 = .ok (.iload_n 1, 1) := by decide +kernel
theorem dX6_setSide_24 : decode cX6_setSide 24 = .ok (.aload_n 0, 1) := by decide +kernel
theorem dX6_setSide_25 : decode cX6_setSide 25 = .ok (.getfield 37, 3) := by decide +kernel
theorem dX6_setSide_28 : decode cX6_setSide 28 = .ok (.iload_n 1, 1) := by decide +kernel
theorem dX6_setSide_29 : decode cX6_setSide 29 = .ok (.iaload, 1) := by decide +kernel
theorem dX6_setSide_30 : decode cX6_setSide 30 = .ok (.ifCond .ge 8, 3) := by decide +kernel
theorem dX6_setSide_33 : decode cX6_setSide 33 = .ok (.bipush (-4), 2) := by decide +kernel
theorem dX6_setSide_35 : decode cX6_setSide 35 = .ok (.goto 37, 3) := by decide +kernel
theorem dX6_setSide_38 : decode cX6_setSide 38 = .ok (.iload_n 2, 1) := by decide +kernel
theorem dX6_setSide_39 : decode cX6_setSide 39 = .ok (.aload_n 0, 1) := by decide +kernel
theorem dX6_setSide_40 : decode cX6_setSide 40 = .ok (.getfield 13, 3) := by decide +kernel
theorem dX6_setSide_43 : decode cX6_setSide 43 = .ok (.iconst 1, 1) := by decide +kernel
theorem dX6_setSide_44 : decode cX6_setSide 44 = .ok (.iaload, 1) := by decide +kernel
theorem dX6_setSide_45 : decode cX6_setSide 45 = .ok (.if_icmp .ge 7, 3) := by decide +kernel
theorem dX6_setSide_48 : decode cX6_setSide 48 = .ok (.iconst (-1), 1) := by decide +kernel
theorem dX6_setSide_49 : decode cX6_setSide 49 = .ok (.goto 23, 3) := by decide +kernel
theorem dX6_setSide_52 : decode cX6_setSide 52 = .ok (.aload_n 0, 1) := by decide +kernel
theorem dX6_setSide_53 : decode cX6_setSide 53 = .ok (.getfield 37, 3) := by decide +kernel
theorem dX6_setSide_56 : decode cX6_setSide 56 = .ok (.iload_n 1, 1) := by decide +kernel
theorem dX6_setSide_57 : decode cX6_setSide 57 = .ok (.iaload, 1) := by decide +kernel
theorem dX6_setSide_58 : decode cX6_setSide 58 = .ok (.aload_n 0, 1) := by decide +kernel
theorem dX6_setSide_59 : decode cX6_setSide 59 = .ok (.getfield 13, 3) := by decide +kernel
theorem dX6_setSide_62 : decode cX6_setSide 62 = .ok (.iconst 1, 1) := by decide +kernel
theorem dX6_setSide_63 : decode cX6_setSide 63 = .ok (.iaload, 1) := by decide +kernel
theorem dX6_setSide_64 : decode cX6_setSide 64 = .ok (.if_icmp .le 7, 3) := by decide +kernel
theorem dX6_setSide_67 : decode cX6_setSide 67 = .ok (.iconst 1, 1) := by decide +kernel
theorem dX6_setSide_68 : decode cX6_setSide 68 = .ok (.goto 4, 3) := by decide +kernel
theorem dX6_setSide_71 : decode cX6_setSide 71 = .ok (.iconst 0, 1) := by decide +kernel
theorem dX6_setSide_72 : decode cX6_setSide 72 = .ok (.iastore, 1) := by decide +kernel
theorem dX6_setSide_73 : decode cX6_setSide 73 = .ok (.return_, 1) := by decide +kernel
theorem dX6_standUp_0 : decode cX6_standUp 0 = .ok (.iconst 0, 1) := by decide +kernel
theorem dX6_standUp_1 : decode cX6_standUp 1 = .ok (.istore_n 1, 1) := by decide +kernel
theorem dX6_standUp_2 : decode cX6_standUp 2 = .ok (.iload_n 1, 1) := by decide +kernel
theorem dX6_standUp_3 : decode cX6_standUp 3 = .ok (.bipush 7, 2) := by decide +kernel
theorem dX6_standUp_5 : decode cX6_standUp 5 = .ok (.if_icmp .ge 73, 3) := by decide +kernel
theorem dX6_standUp_8 : decode cX6_standUp 8 = .ok (.aload_n 0, 1) := by decide +kernel
theorem dX6_standUp_9 : decode cX6_standUp 9 = .ok (.getfield 37, 3) := by decide +kernel
theorem dX6_standUp_12 : decode cX6_standUp 12 = .ok (.iload_n 1, 1) := by decide +kernel
theorem dX6_standUp_13 : decode cX6_standUp 13 = .ok (.iload_n 1, 1) := by decide +kernel
theorem dX6_standUp_14 : decode cX6_standUp 14 = .ok (.aload_n 0, 1) := by decide +kernel
theorem dX6_standUp_15 : decode cX6_standUp 15 = .ok (.getfield 13, 3) := by decide +kernel
theorem dX6_standUp_18 : decode cX6_standUp 18 = .ok (.iconst 3, 1) := by decide +kernel
theorem dX6_standUp_19 : decode cX6_standUp 19 = .ok (.iaload, 1) := by decide +kernel
theorem dX6_standUp_20 : decode cX6_standUp 20 = .ok (.if_icmp .ge 14, 3) := by decide +kernel
theorem dX6_standUp_23 : decode cX6_standUp 23 = .ok (.aload_n 0, 1) := by decide +kernel
theorem dX6_standUp_24 : decode cX6_standUp 24 = .ok (.getfield 19, 3) := by decide +kernel
theorem dX6_standUp_27 : decode cX6_standUp 27 = .ok (.iconst 2, 1) := by decide +kernel
theorem dX6_standUp_28 : decode cX6_standUp 28 = .ok (.iload_n 1, 1) := by decide +kernel
theorem dX6_standUp_29 : decode cX6_standUp 29 = .ok (.iadd, 1) := by decide +kernel
theorem dX6_standUp_30 : decode cX6_standUp 30 = .ok (.iaload, 1) := by decide +kernel
theorem dX6_standUp_31 : decode cX6_standUp 31 = .ok (.goto 5, 3) := by decide +kernel
theorem dX6_standUp_34 : decode cX6_standUp 34 = .ok (.bipush (-4), 2) := by decide +kernel
theorem dX6_standUp_36 : decode cX6_standUp 36 = .ok (.iastore, 1) := by decide +kernel
theorem dX6_standUp_37 : decode cX6_standUp 37 = .ok (.aload_n 0, 1) := by decide +kernel
theorem dX6_standUp_38 : decode cX6_standUp 38 = .ok (.getfield 40, 3) := by decide +kernel
theorem dX6_standUp_41 : decode cX6_standUp 41 = .ok (.iload_n 1, 1) := by decide +kernel
theorem dX6_standUp_42 : decode cX6_standUp 42 = .ok (.iload_n 1, 1) := by decide +kernel
theorem dX6_standUp_43 : decode cX6_standUp 43 = .ok (.aload_n 0, 1) := by decide +kernel
theorem dX6_standUp_44 : decode cX6_standUp 44 = .ok (.getfield 13, 3) := by decide +kernel
theorem dX6_standUp_47 : decode cX6_standUp 47 = .ok (.iconst 3, 1) := by decide +kernel
theorem dX6_standUp_48 : decode cX6_standUp 48 = .ok (.iaload, 1) := by decide +kernel
theorem dX6_standUp_49 : decode cX6_standUp 49 = .ok (.if_icmp .ge 15, 3) := by decide +kernel
theorem dX6_standUp_52 : decode cX6_standUp 52 = .ok (.aload_n 0, 1) := by decide +kernel
theorem dX6_standUp_53 : decode cX6_standUp 53 = .ok (.getfield 19, 3) := by decide +kernel
theorem dX6_standUp_56 : decode cX6_standUp 56 = .ok (.bipush 9, 2) := by decide +kernel
theorem dX6_standUp_58 : decode cX6_standUp 58 = .ok (.iload_n 1, 1) := by decide +kernel
theorem dX6_standUp_59 : decode cX6_standUp 59 = .ok (.iadd, 1) := by decide +kernel
theorem dX6_standUp_60 : decode cX6_standUp 60 = .ok (.iaload, 1) := by decide +kernel
theorem dX6_standUp_61 : decode cX6_standUp 61 = .ok (.goto 5, 3) := by decide +kernel
theorem dX6_standUp_64 : decode cX6_standUp 64 = .ok (.bipush (-4), 2) := by decide +kernel
theorem dX6_standUp_66 : decode cX6_standUp 66 = .ok (.iastore, 1) := by decide +kernel
theorem dX6_standUp_67 : decode cX6_standUp 67 = .ok (.aload_n 0, 1) := by decide +kernel
theorem dX6_standUp_68 : decode cX6_standUp 68 = .ok (.iload_n 1, 1) := by decide +kernel
theorem dX6_standUp_69 : decode cX6_standUp 69 = .ok (.invokevirtual 123, 3) := by decide +kernel
theorem dX6_standUp_72 : decode cX6_standUp 72 = .ok (.iinc 1 1, 3) := by decide +kernel
theorem dX6_standUp_75 : decode cX6_standUp 75 = .ok (.goto (-73), 3) := by decide +kernel
theorem dX6_standUp_78 : decode cX6_standUp 78 = .ok (.return_, 1) := by decide +kernel
theorem dX6_clear_0 : decode cX6_clear 0 = .ok (.iconst 0, 1) := by decide +kernel
theorem dX6_clear_1 : decode cX6_clear 1 = .ok (.istore_n 1, 1) := by decide +kernel
theorem dX6_clear_2 : decode cX6_clear 2 = .ok (.iload_n 1, 1) := by decide +kernel
theorem dX6_clear_3 : decode cX6_clear 3 = .ok (.bipush 7, 2) := by decide +kernel
theorem dX6_clear_5 : decode cX6_clear 5 = .ok (.if_icmp .ge 18, 3) := by decide +kernel
theorem dX6_clear_8 : decode cX6_clear 8 = .ok (.aload_n 0, 1) := by decide +kernel
theorem dX6_clear_9 : decode cX6_clear 9 = .ok (.iload_n 1, 1) := by decide +kernel
theorem dX6_clear_10 : decode cX6_clear 10 = .ok (.bipush (-4), 2) := by decide +kernel
theorem dX6_clear_12 : decode cX6_clear 12 = .ok (.bipush (-4), 2) := by decide +kernel
theorem dX6_clear_14 : decode cX6_clear 14 = .ok (.invokevirtual 127, 3) := by decide +kernel
theorem dX6_clear_17 : decode cX6_clear 17 = .ok (.iinc 1 1, 3) := by decide +kernel
theorem dX6_clear_20 : decode cX6_clear 20 = .ok (.goto (-18), 3) := by decide +kernel
theorem dX6_clear_23 : decode cX6_clear 23 = .ok (.return_, 1) := by decide +kernel
theorem dX6_put_0 : decode cX6_put 0 = .ok (.aload_n 0, 1) := by decide +kernel
theorem dX6_put_1 : decode cX6_put 1 = .ok (.getfield 37, 3) := by decide +kernel
theorem dX6_put_4 : decode cX6_put 4 = .ok (.iload_n 1, 1) := by decide +kernel
theorem dX6_put_5 : decode cX6_put 5 = .ok (.iload_n 2, 1) := by decide +kernel
theorem dX6_put_6 : decode cX6_put 6 = .ok (.iastore, 1) := by decide +kernel
theorem dX6_put_7 : decode cX6_put 7 = .ok (.aload_n 0, 1) := by decide +kernel
theorem dX6_put_8 : decode cX6_put 8 = .ok (.getfield 40, 3) := by decide +kernel
theorem dX6_put_11 : decode cX6_put 11 = .ok (.iload_n 1, 1) := by decide +kernel
theorem dX6_put_12 : decode cX6_put 12 = .ok (.iload_n 3, 1) := by decide +kernel
theorem dX6_put_13 : decode cX6_put 13 = .ok (.iastore, 1) := by decide +kernel
theorem dX6_put_14 : decode cX6_put 14 = .ok (.aload_n 0, 1) := by decide +kernel
theorem dX6_put_15 : decode cX6_put 15 = .ok (.iload_n 1, 1) := by decide +kernel
theorem dX6_put_16 : decode cX6_put 16 = .ok (.invokevirtual 123, 3) := by decide +kernel
theorem dX6_put_19 : decode cX6_put 19 = .ok (.return_, 1) := by decide +kernel
theorem dX6_hasRoom_0 : decode cX6_hasRoom 0 = .ok (.iload_n 2, 1) := by decide +kernel
theorem dX6_hasRoom_1 : decode cX6_hasRoom 1 = .ok (.aload_n 0, 1) := by decide +kernel
theorem dX6_hasRoom_2 : decode cX6_hasRoom 2 = .ok (.getfield 13, 3) := by decide +kernel
theorem dX6_hasRoom_5 : decode cX6_hasRoom 5 = .ok (.bipush 11, 2) := by decide +kernel
theorem dX6_hasRoom_7 : decode cX6_hasRoom 7 = .ok (.iload_n 1, 1) := by decide +kernel
theorem dX6_hasRoom_8 : decode cX6_hasRoom 8 = .ok (.iadd, 1) := by decide +kernel
theorem dX6_hasRoom_9 : decode cX6_hasRoom 9 = .ok (.iaload, 1) := by decide +kernel
theorem dX6_hasRoom_10 : decode cX6_hasRoom 10 = .ok (.iadd, 1) := by decide +kernel
theorem dX6_hasRoom_11 : decode cX6_hasRoom 11 = .ok (.aload_n 0, 1) := by decide +kernel
theorem dX6_hasRoom_12 : decode cX6_hasRoom 12 = .ok (.getfield 13, 3) := by decide +kernel
theorem dX6_hasRoom_15 : decode cX6_hasRoom 15 = .ok (.iconst 0, 1) := by decide +kernel
theorem dX6_hasRoom_16 : decode cX6_hasRoom 16 = .ok (.iaload, 1) := by decide +kernel
theorem dX6_hasRoom_17 : decode cX6_hasRoom 17 = .ok (.if_icmp .le 5, 3) := by decide +kernel
theorem dX6_hasRoom_20 : decode cX6_hasRoom 20 = .ok (.iconst 0, 1) := by decide +kernel
theorem dX6_hasRoom_21 : decode cX6_hasRoom 21 = .ok (.ireturn, 1) := by decide +kernel
theorem dX6_hasRoom_22 : decode cX6_hasRoom 22 = .ok (.iconst 0, 1) := by decide +kernel
theorem dX6_hasRoom_23 : decode cX6_hasRoom 23 = .ok (.istore_n 3, 1) := by decide +kernel
theorem dX6_hasRoom_24 : decode cX6_hasRoom 24 = .ok (.iload_n 3, 1) := by decide +kernel
theorem dX6_hasRoom_25 : decode cX6_hasRoom 25 = .ok (.aload_n 0, 1) := by decide +kernel
theorem dX6_hasRoom_26 : decode cX6_hasRoom 26 = .ok (.getfield 13, 3) := by decide +kernel
theorem dX6_hasRoom_29 : decode cX6_hasRoom 29 = .ok (.iconst 3, 1) := by decide +kernel
theorem dX6_hasRoom_30 : decode cX6_hasRoom 30 = .ok (.iaload, 1) := by decide +kernel
theorem dX6_hasRoom_31 : decode cX6_hasRoom 31 = .ok (.if_icmp .ge 65, 3) := by decide +kernel
theorem dX6_hasRoom_34 : decode cX6_hasRoom 34 = .ok (.iload_n 3, 1) := by decide +kernel
theorem dX6_hasRoom_35 : decode cX6_hasRoom 35 = .ok (.iload_n 1, 1) := by decide +kernel
theorem dX6_hasRoom_36 : decode cX6_hasRoom 36 = .ok (.if_icmp .eq 54, 3) := by decide +kernel
theorem dX6_hasRoom_39 : decode cX6_hasRoom 39 = .ok (.aload_n 0, 1) := by decide +kernel
theorem dX6_hasRoom_40 : decode cX6_hasRoom 40 = .ok (.getfield 37, 3) := by decide +kernel
theorem dX6_hasRoom_43 : decode cX6_hasRoom 43 = .ok (.iload_n 3, 1) := by decide +kernel
theorem dX6_hasRoom_44 : decode cX6_hasRoom 44 = .ok (.iaload, 1) := by decide +kernel
theorem dX6_hasRoom_45 : decode cX6_hasRoom 45 = .ok (.ifCond .lt 45, 3) := by decide +kernel
theorem dX6_hasRoom_48 : decode cX6_hasRoom 48 = .ok (.aload_n 0, 1) := by decide +kernel
theorem dX6_hasRoom_49 : decode cX6_hasRoom 49 = .ok (.getfield 37, 3) := by decide +kernel
theorem dX6_hasRoom_52 : decode cX6_hasRoom 52 = .ok (.iload_n 3, 1) := by decide +kernel
theorem dX6_hasRoom_53 : decode cX6_hasRoom 53 = .ok (.iaload, 1) := by decide +kernel
theorem dX6_hasRoom_54 : decode cX6_hasRoom 54 = .ok (.iload_n 2, 1) := by decide +kernel
theorem dX6_hasRoom_55 : decode cX6_hasRoom 55 = .ok (.aload_n 0, 1) := by decide +kernel
theorem dX6_hasRoom_56 : decode cX6_hasRoom 56 = .ok (.getfield 13, 3) := by decide +kernel
theorem dX6_hasRoom_59 : decode cX6_hasRoom 59 = .ok (.bipush 11, 2) := by decide +kernel
theorem dX6_hasRoom_61 : decode cX6_hasRoom 61 = .ok (.iload_n 1, 1) := by decide +kernel
theorem dX6_hasRoom_62 : decode cX6_hasRoom 62 = .ok (.iadd, 1) := by decide +kernel
theorem dX6_hasRoom_63 : decode cX6_hasRoom 63 = .ok (.iaload, 1) := by decide +kernel
theorem dX6_hasRoom_64 : decode cX6_hasRoom 64 = .ok (.iadd, 1) := by decide +kernel
theorem dX6_hasRoom_65 : decode cX6_hasRoom 65 = .ok (.if_icmp .ge 25, 3) := by decide +kernel
theorem dX6_hasRoom_68 : decode cX6_hasRoom 68 = .ok (.iload_n 2, 1) := by decide +kernel
theorem dX6_hasRoom_69 : decode cX6_hasRoom 69 = .ok (.aload_n 0, 1) := by decide +kernel
theorem dX6_hasRoom_70 : decode cX6_hasRoom 70 = .ok (.getfield 37, 3) := by decide +kernel
theorem dX6_hasRoom_73 : decode cX6_hasRoom 73 = .ok (.iload_n 3, 1) := by decide +kernel
theorem dX6_hasRoom_74 : decode cX6_hasRoom 74 = .ok (.iaload, 1) := by decide +kernel
theorem dX6_hasRoom_75 : decode cX6_hasRoom 75 = .ok (.aload_n 0, 1) := by decide +kernel
theorem dX6_hasRoom_76 : decode cX6_hasRoom 76 = .ok (.getfield 13, 3) := by decide +kernel
theorem dX6_hasRoom_79 : decode cX6_hasRoom 79 = .ok (.bipush 11, 2) := by decide +kernel
theorem dX6_hasRoom_81 : decode cX6_hasRoom 81 = .ok (.iload_n 3, 1) := by decide +kernel
theorem dX6_hasRoom_82 : decode cX6_hasRoom 82 = .ok (.iadd, 1) := by decide +kernel
theorem dX6_hasRoom_83 : decode cX6_hasRoom 83 = .ok (.iaload, 1) := by decide +kernel
theorem dX6_hasRoom_84 : decode cX6_hasRoom 84 = .ok (.iadd, 1) := by decide +kernel
theorem dX6_hasRoom_85 : decode cX6_hasRoom 85 = .ok (.if_icmp .ge 5, 3) := by decide +kernel
theorem dX6_hasRoom_88 : decode cX6_hasRoom 88 = .ok (.iconst 0, 1) := by decide +kernel
theorem dX6_hasRoom_89 : decode cX6_hasRoom 89 = .ok (.ireturn, 1) := by decide +kernel
theorem dX6_hasRoom_90 : decode cX6_hasRoom 90 = .ok (.iinc 3 1, 3) := by decide +kernel
theorem dX6_hasRoom_93 : decode cX6_hasRoom 93 = .ok (.goto (-69), 3) := by decide +kernel
theorem dX6_hasRoom_96 : decode cX6_hasRoom 96 = .ok (.iconst 1, 1) := by decide +kernel
theorem dX6_hasRoom_97 : decode cX6_hasRoom 97 = .ok (.ireturn, 1) := by decide +kernel
theorem dX6_looksIn_0 : decode cX6_looksIn 0 = .ok (.aload_n 0, 1) := by decide +kernel
theorem dX6_looksIn_1 : decode cX6_looksIn 1 = .ok (.getfield 43, 3) := by decide +kernel
theorem dX6_looksIn_4 : decode cX6_looksIn 4 = .ok (.iload_n 1, 1) := by decide +kernel
theorem dX6_looksIn_5 : decode cX6_looksIn 5 = .ok (.iaload, 1) := by decide +kernel
theorem dX6_looksIn_6 : decode cX6_looksIn 6 = .ok (.ifCond .eq 42, 3) := by decide +kernel
theorem dX6_looksIn_9 : decode cX6_looksIn 9 = .ok (.aload_n 0, 1) := by decide +kernel
theorem dX6_looksIn_10 : decode cX6_looksIn 10 = .ok (.getfield 43, 3) := by decide +kernel
theorem dX6_looksIn_13 : decode cX6_looksIn 13 = .ok (.iload_n 1, 1) := by decide +kernel
theorem dX6_looksIn_14 : decode cX6_looksIn 14 = .ok (.iaload, 1) := by decide +kernel
theorem dX6_looksIn_15 : decode cX6_looksIn 15 = .ok (.iconst (-1), 1) := by decide +kernel
theorem dX6_looksIn_16 : decode cX6_looksIn 16 = .ok (.if_icmp .ne 13, 3) := by decide +kernel
theorem dX6_looksIn_19 : decode cX6_looksIn 19 = .ok (.aload_n 0, 1) := by decide +kernel
theorem dX6_looksIn_20 : decode cX6_looksIn 20 = .ok (.getfield 40, 3) := by decide +kernel
theorem dX6_looksIn_23 : decode cX6_looksIn 23 = .ok (.iload_n 1, 1) := by decide +kernel
theorem dX6_looksIn_24 : decode cX6_looksIn 24 = .ok (.iaload, 1) := by decide +kernel
theorem dX6_looksIn_25 : decode cX6_looksIn 25 = .ok (.iconst 1, 1) := by decide +kernel
theorem dX6_looksIn_26 : decode cX6_looksIn 26 = .ok (.if_icmp .eq 22, 3) := by decide +kernel
theorem dX6_looksIn_29 : decode cX6_looksIn 29 = .ok (.aload_n 0, 1) := by decide +kernel
theorem dX6_looksIn_30 : decode cX6_looksIn 30 = .ok (.getfield 43, 3) := by decide +kernel
theorem dX6_looksIn_33 : decode cX6_looksIn 33 = .ok (.iload_n 1, 1) := by decide +kernel
theorem dX6_looksIn_34 : decode cX6_looksIn 34 = .ok (.iaload, 1) := by decide +kernel
theorem dX6_looksIn_35 : decode cX6_looksIn 35 = .ok (.iconst 1, 1) := by decide +kernel
theorem dX6_looksIn_36 : decode cX6_looksIn 36 = .ok (.if_icmp .ne 16, 3) := by decide +kernel
theorem dX6_looksIn_39 : decode cX6_looksIn 39 = .ok (.aload_n 0, 1) := by decide +kernel
theorem dX6_looksIn_40 : decode cX6_looksIn 40 = .ok (.getfield 40, 3) := by decide +kernel
theorem dX6_looksIn_43 : decode cX6_looksIn 43 = .ok (.iload_n 1, 1) := by decide +kernel
theorem dX6_looksIn_44 : decode cX6_looksIn 44 = .ok (.iaload, 1) := by decide +kernel
theorem dX6_looksIn_45 : decode cX6_looksIn 45 = .ok (.ifCond .ne 7, 3) := by decide +kernel
theorem dX6_looksIn_48 : decode cX6_looksIn 48 = .ok (.iconst 1, 1) := by decide +kernel
theorem dX6_looksIn_49 : decode cX6_looksIn 49 = .ok (.goto 4, 3) := by decide +kernel
theorem dX6_looksIn_52 : decode cX6_looksIn 52 = .ok (.iconst 0, 1) := by decide +kernel
theorem dX6_looksIn_53 : decode cX6_looksIn 53 = .ok (.ireturn, 1) := by decide +kernel
theorem dX6_shadowOf_0 : decode cX6_shadowOf 0 = .ok (.iconst 0, 1) := by decide +kernel
theorem dX6_shadowOf_1 : decode cX6_shadowOf 1 = .ok (.istore_n 2, 1) := by decide +kernel
theorem dX6_shadowOf_2 : decode cX6_shadowOf 2 = .ok (.iconst 0, 1) := by decide +kernel
theorem dX6_shadowOf_3 : decode cX6_shadowOf 3 = .ok (.istore_n 3, 1) := by decide +kernel
theorem dX6_shadowOf_4 : decode cX6_shadowOf 4 = .ok (.iload_n 3, 1) := by decide +kernel
theorem dX6_shadowOf_5 : decode cX6_shadowOf 5 = .ok (.aload_n 0, 1) := by decide +kernel
theorem dX6_shadowOf_6 : decode cX6_shadowOf 6 = .ok (.getfield 13, 3) := by decide +kernel
theorem dX6_shadowOf_9 : decode cX6_shadowOf 9 = .ok (.iconst 3, 1) := by decide +kernel
theorem dX6_shadowOf_10 : decode cX6_shadowOf 10 = .ok (.iaload, 1) := by decide +kernel
theorem dX6_shadowOf_11 : decode cX6_shadowOf 11 = .ok (.if_icmp .ge 173, 3) := by decide +kernel
theorem dX6_shadowOf_14 : decode cX6_shadowOf 14 = .ok (.aload_n 0, 1) := by decide +kernel
theorem dX6_shadowOf_15 : decode cX6_shadowOf 15 = .ok (.getfield 43, 3) := by decide +kernel
theorem dX6_shadowOf_18 : decode cX6_shadowOf 18 = .ok (.iload_n 3, 1) := by decide +kernel
theorem dX6_shadowOf_19 : decode cX6_shadowOf 19 = .ok (.iaload, 1) := by decide +kernel
theorem dX6_shadowOf_20 : decode cX6_shadowOf 20 = .ok (.aload_n 0, 1) := by decide +kernel
theorem dX6_shadowOf_21 : decode cX6_shadowOf 21 = .ok (.getfield 43, 3) := by decide +kernel
theorem dX6_shadowOf_24 : decode cX6_shadowOf 24 = .ok (.iload_n 1, 1) := by decide +kernel
theorem dX6_shadowOf_25 : decode cX6_shadowOf 25 = .ok (.iaload, 1) := by decide +kernel
theorem dX6_shadowOf_26 : decode cX6_shadowOf 26 = .ok (.if_icmp .ne 49, 3) := by decide +kernel
theorem dX6_shadowOf_29 : decode cX6_shadowOf 29 = .ok (.aload_n 0, 1) := by decide +kernel
theorem dX6_shadowOf_30 : decode cX6_shadowOf 30 = .ok (.getfield 43, 3) := by decide +kernel
theorem dX6_shadowOf_33 : decode cX6_shadowOf 33 = .ok (.iload_n 1, 1) := by decide +kernel
theorem dX6_shadowOf_34 : decode cX6_shadowOf 34 = .ok (.iaload, 1) := by decide +kernel
theorem dX6_shadowOf_35 : decode cX6_shadowOf 35 = .ok (.ifCond .ge 21, 3) := by decide +kernel
theorem dX6_shadowOf_38 : decode cX6_shadowOf 38 = .ok (.aload_n 0, 1) := by decide +kernel
theorem dX6_shadowOf_39 : decode cX6_shadowOf 39 = .ok (.getfield 37, 3) := by decide +kernel
theorem dX6_shadowOf_42 : decode cX6_shadowOf 42 = .ok (.iload_n 3, 1) := by decide +kernel
theorem dX6_shadowOf_43 : decode cX6_shadowOf 43 = .ok (.iaload, 1) := by decide +kernel
theorem dX6_shadowOf_44 : decode cX6_shadowOf 44 = .ok (.aload_n 0, 1) := by decide +kernel
theorem dX6_shadowOf_45 : decode cX6_shadowOf 45 = .ok (.getfield 37, 3) := by decide +kernel
theorem dX6_shadowOf_48 : decode cX6_shadowOf 48 = .ok (.iload_n 1, 1) := by decide +kernel
theorem dX6_shadowOf_49 : decode cX6_shadowOf 49 = .ok (.iaload, 1) := by decide +kernel
theorem dX6_shadowOf_50 : decode cX6_shadowOf 50 = .ok (.if_icmp .le 25, 3) := by decide +kernel
theorem dX6_shadowOf_53 : decode cX6_shadowOf 53 = .ok (.goto 18, 3) := by decide +kernel
theorem dX6_shadowOf_56 : decode cX6_shadowOf 56 = .ok (.aload_n 0, 1) := by decide +kernel
theorem dX6_shadowOf_57 : decode cX6_shadowOf 57 = .ok (.getfield 37, 3) := by decide +kernel
theorem dX6_shadowOf_60 : decode cX6_shadowOf 60 = .ok (.iload_n 3, 1) := by decide +kernel
theorem dX6_shadowOf_61 : decode cX6_shadowOf 61 = .ok (.iaload, 1) := by decide +kernel
theorem dX6_shadowOf_62 : decode cX6_shadowOf 62 = .ok (.aload_n 0, 1) := by decide +kernel
theorem dX6_shadowOf_63 : decode cX6_shadowOf 63 = .ok (.getfield 37, 3) := by decide +kernel
theorem dX6_shadowOf_66 : decode cX6_shadowOf 66 = .ok (.iload_n 1, 1) := by decide +kernel
theorem dX6_shadowOf_67 : decode cX6_shadowOf 67 = .ok (.iaload, 1) := by decide +kernel
theorem dX6_shadowOf_68 : decode cX6_shadowOf 68 = .ok (.if_icmp .ge 7, 3) := by decide +kernel
theorem dX6_shadowOf_71 : decode cX6_shadowOf 71 = .ok (.iconst 1, 1) := by decide +kernel
theorem dX6_shadowOf_72 : decode cX6_shadowOf 72 = .ok (.goto 4, 3) := by decide +kernel
theorem dX6_shadowOf_75 : decode cX6_shadowOf 75 = .ok (.iconst 0, 1) := by decide +kernel
theorem dX6_shadowOf_76 : decode cX6_shadowOf 76 = .ok (.istore 4, 2) := by decide +kernel
theorem dX6_shadowOf_78 : decode cX6_shadowOf 78 = .ok (.iload_n 3, 1) := by decide +kernel
theorem dX6_shadowOf_79 : decode cX6_shadowOf 79 = .ok (.iload_n 1, 1) := by decide +kernel
theorem dX6_shadowOf_80 : decode cX6_shadowOf 80 = .ok (.if_icmp .eq 39, 3) := by decide +kernel
theorem dX6_shadowOf_83 : decode cX6_shadowOf 83 = .ok (.aload_n 0, 1) := by decide +kernel
theorem dX6_shadowOf_84 : decode cX6_shadowOf 84 = .ok (.getfield 43, 3) := by decide +kernel
theorem dX6_shadowOf_87 : decode cX6_shadowOf 87 = .ok (.iload_n 1, 1) := by decide +kernel
theorem dX6_shadowOf_88 : decode cX6_shadowOf 88 = .ok (.iaload, 1) := by decide +kernel
theorem dX6_shadowOf_89 : decode cX6_shadowOf 89 = .ok (.ifCond .eq 30, 3) := by decide +kernel
theorem dX6_shadowOf_92 : decode cX6_shadowOf 92 = .ok (.aload_n 0, 1) := by decide +kernel
theorem dX6_shadowOf_93 : decode cX6_shadowOf 93 = .ok (.getfield 37, 3) := by decide +kernel
theorem dX6_shadowOf_96 : decode cX6_shadowOf 96 = .ok (.iload_n 3, 1) := by decide +kernel
theorem dX6_shadowOf_97 : decode cX6_shadowOf 97 = .ok (.iaload, 1) := by decide +kernel
theorem dX6_shadowOf_98 : decode cX6_shadowOf 98 = .ok (.ifCond .lt 21, 3) := by decide +kernel
theorem dX6_shadowOf_101 : decode cX6_shadowOf 101 = .ok (.aload_n 0, 1) := by decide +kernel
theorem dX6_shadowOf_102 : decode cX6_shadowOf 102 = .ok (.getfield 43, 3) := by decide +kernel
theorem dX6_shadowOf_105 : decode cX6_shadowOf 105 = .ok (.iload_n 3, 1) := by decide +kernel
theorem dX6_shadowOf_106 : decode cX6_shadowOf 106 = .ok (.iaload, 1) := by decide +kernel
theorem dX6_shadowOf_107 : decode cX6_shadowOf 107 = .ok (.ifCond .eq 8, 3) := by decide +kernel
theorem dX6_shadowOf_110 : decode cX6_shadowOf 110 = .ok (.iload 4, 2) := by decide +kernel
theorem dX6_shadowOf_112 : decode cX6_shadowOf 112 = .ok (.ifCond .eq 7, 3) := by decide +kernel
theorem dX6_shadowOf_115 : decode cX6_shadowOf 115 = .ok (.iconst 1, 1) := by decide +kernel
theorem dX6_shadowOf_116 : decode cX6_shadowOf 116 = .ok (.goto 4, 3) := by decide +kernel
theorem dX6_shadowOf_119 : decode cX6_shadowOf 119 = .ok (.iconst 0, 1) := by decide +kernel
theorem dX6_shadowOf_120 : decode cX6_shadowOf 120 = .ok (.istore 5, 2) := by decide +kernel
theorem dX6_shadowOf_122 : decode cX6_shadowOf 122 = .ok (.aload_n 0, 1) := by decide +kernel
theorem dX6_shadowOf_123 : decode cX6_shadowOf 123 = .ok (.getfield 13, 3) := by decide +kernel
theorem dX6_shadowOf_126 : decode cX6_shadowOf 126 = .ok (.bipush 18, 2) := by decide +kernel
theorem dX6_shadowOf_128 : decode cX6_shadowOf 128 = .ok (.iload_n 3, 1) := by decide +kernel
theorem dX6_shadowOf_129 : decode cX6_shadowOf 129 = .ok (.iadd, 1) := by decide +kernel
theorem dX6_shadowOf_130 : decode cX6_shadowOf 130 = .ok (.iaload, 1) := by decide +kernel
theorem dX6_shadowOf_131 : decode cX6_shadowOf 131 = .ok (.aload_n 0, 1) := by decide +kernel
theorem dX6_shadowOf_132 : decode cX6_shadowOf 132 = .ok (.getfield 13, 3) := by decide +kernel
theorem dX6_shadowOf_135 : decode cX6_shadowOf 135 = .ok (.bipush 18, 2) := by decide +kernel
theorem dX6_shadowOf_137 : decode cX6_shadowOf 137 = .ok (.iload_n 1, 1) := by decide +kernel
theorem dX6_shadowOf_138 : decode cX6_shadowOf 138 = .ok (.iadd, 1) := by decide +kernel
theorem dX6_shadowOf_139 : decode cX6_shadowOf 139 = .ok (.iaload, 1) := by decide +kernel
theorem dX6_shadowOf_140 : decode cX6_shadowOf 140 = .ok (.isub, 1) := by decide +kernel
theorem dX6_shadowOf_141 : decode cX6_shadowOf 141 = .ok (.istore 6, 2) := by decide +kernel
theorem dX6_shadowOf_143 : decode cX6_shadowOf 143 = .ok (.iload_n 2, 1) := by decide +kernel
theorem dX6_shadowOf_144 : decode cX6_shadowOf 144 = .ok (.iload 5, 2) := by decide +kernel
theorem dX6_shadowOf_146 : decode cX6_shadowOf 146 = .ok (.ifCond .eq 29, 3) := by decide +kernel
theorem dX6_shadowOf_149 : decode cX6_shadowOf 149 = .ok (.iload 6, 2) := by decide +kernel
theorem dX6_shadowOf_151 : decode cX6_shadowOf 151 = .ok (.ifCond .gt 20, 3) := by decide +kernel
theorem dX6_shadowOf_154 : decode cX6_shadowOf 154 = .ok (.iload 6, 2) := by decide +kernel
theorem dX6_shadowOf_156 : decode cX6_shadowOf 156 = .ok (.ifCond .ne 19, 3) := by decide +kernel
theorem dX6_shadowOf_159 : decode cX6_shadowOf 159 = .ok (.aload_n 0, 1) := by decide +kernel
theorem dX6_shadowOf_160 : decode cX6_shadowOf 160 = .ok (.getfield 13, 3) := by decide +kernel
theorem dX6_shadowOf_163 : decode cX6_shadowOf 163 = .ok (.iconst 4, 1) := by decide +kernel
theorem dX6_shadowOf_164 : decode cX6_shadowOf 164 = .ok (.iload_n 1, 1) := by decide +kernel
theorem dX6_shadowOf_165 : decode cX6_shadowOf 165 = .ok (.iadd, 1) := by decide +kernel
theorem dX6_shadowOf_166 : decode cX6_shadowOf 166 = .ok (.iaload, 1) := by decide +kernel
theorem dX6_shadowOf_167 : decode cX6_shadowOf 167 = .ok (.iconst 2, 1) := by decide +kernel
theorem dX6_shadowOf_168 : decode cX6_shadowOf 168 = .ok (.if_icmp .ne 7, 3) := by decide +kernel
theorem dX6_shadowOf_171 : decode cX6_shadowOf 171 = .ok (.iconst 1, 1) := by decide +kernel
theorem dX6_shadowOf_172 : decode cX6_shadowOf 172 = .ok (.goto 4, 3) := by decide +kernel
theorem dX6_shadowOf_175 : decode cX6_shadowOf 175 = .ok (.iconst 0, 1) := by decide +kernel
theorem dX6_shadowOf_176 : decode cX6_shadowOf 176 = .ok (.iadd, 1) := by decide +kernel
theorem dX6_shadowOf_177 : decode cX6_shadowOf 177 = .ok (.istore_n 2, 1) := by decide +kernel
theorem dX6_shadowOf_178 : decode cX6_shadowOf 178 = .ok (.iinc 3 1, 3) := by decide +kernel
theorem dX6_shadowOf_181 : decode cX6_shadowOf 181 = .ok (.goto (-177), 3) := by decide +kernel
theorem dX6_shadowOf_184 : decode cX6_shadowOf 184 = .ok (.aload_n 0, 1) := by decide +kernel
theorem dX6_shadowOf_185 : decode cX6_shadowOf 185 = .ok (.getfield 13, 3) := by decide +kernel
theorem dX6_shadowOf_188 : decode cX6_shadowOf 188 = .ok (.iconst 4, 1) := by decide +kernel
theorem dX6_shadowOf_189 : decode cX6_shadowOf 189 = .ok (.iload_n 1, 1) := by decide +kernel
theorem dX6_shadowOf_190 : decode cX6_shadowOf 190 = .ok (.iadd, 1) := by decide +kernel
theorem dX6_shadowOf_191 : decode cX6_shadowOf 191 = .ok (.iaload, 1) := by decide +kernel
theorem dX6_shadowOf_192 : decode cX6_shadowOf 192 = .ok (.iconst 3, 1) := by decide +kernel
theorem dX6_shadowOf_193 : decode cX6_shadowOf 193 = .ok (.if_icmp .ne 9, 3) := by decide +kernel
theorem dX6_shadowOf_196 : decode cX6_shadowOf 196 = .ok (.iload_n 2, 1) := by decide +kernel
theorem dX6_shadowOf_197 : decode cX6_shadowOf 197 = .ok (.iconst 2, 1) := by decide +kernel
theorem dX6_shadowOf_198 : decode cX6_shadowOf 198 = .ok (.idiv, 1) := by decide +kernel
theorem dX6_shadowOf_199 : decode cX6_shadowOf 199 = .ok (.goto 4, 3) := by decide +kernel
theorem dX6_shadowOf_202 : decode cX6_shadowOf 202 = .ok (.iload_n 2, 1) := by decide +kernel
theorem dX6_shadowOf_203 : decode cX6_shadowOf 203 = .ok (.ireturn, 1) := by decide +kernel
theorem dX6_strikes_0 : decode cX6_strikes 0 = .ok (.aload_n 0, 1) := by decide +kernel
theorem dX6_strikes_1 : decode cX6_strikes 1 = .ok (.getfield 13, 3) := by decide +kernel
theorem dX6_strikes_4 : decode cX6_strikes 4 = .ok (.iconst 4, 1) := by decide +kernel
theorem dX6_strikes_5 : decode cX6_strikes 5 = .ok (.iload_n 1, 1) := by decide +kernel
theorem dX6_strikes_6 : decode cX6_strikes 6 = .ok (.iadd, 1) := by decide +kernel
theorem dX6_strikes_7 : decode cX6_strikes 7 = .ok (.iaload, 1) := by decide +kernel
theorem dX6_strikes_8 : decode cX6_strikes 8 = .ok (.iconst 3, 1) := by decide +kernel
theorem dX6_strikes_9 : decode cX6_strikes 9 = .ok (.if_icmp .ne 34, 3) := by decide +kernel
theorem dX6_strikes_12 : decode cX6_strikes 12 = .ok (.aload_n 0, 1) := by decide +kernel
theorem dX6_strikes_13 : decode cX6_strikes 13 = .ok (.getfield 37, 3) := by decide +kernel
theorem dX6_strikes_16 : decode cX6_strikes 16 = .ok (.iload_n 1, 1) := by decide +kernel
theorem dX6_strikes_17 : decode cX6_strikes 17 = .ok (.iaload, 1) := by decide +kernel
theorem dX6_strikes_18 : decode cX6_strikes 18 = .ok (.ifCond .lt 25, 3) := by decide +kernel
theorem dX6_strikes_21 : decode cX6_strikes 21 = .ok (.aload_n 0, 1) := by decide +kernel
theorem dX6_strikes_22 : decode cX6_strikes 22 = .ok (.getfield 13, 3) := by decide +kernel
theorem dX6_strikes_25 : decode cX6_strikes 25 = .ok (.bipush 18, 2) := by decide +kernel
theorem dX6_strikes_27 : decode cX6_strikes 27 = .ok (.iload_n 1, 1) := by decide +kernel
theorem dX6_strikes_28 : decode cX6_strikes 28 = .ok (.iadd, 1) := by decide +kernel
theorem dX6_strikes_29 : decode cX6_strikes 29 = .ok (.iaload, 1) := by decide +kernel
theorem dX6_strikes_30 : decode cX6_strikes 30 = .ok (.aload_n 0, 1) := by decide +kernel
theorem dX6_strikes_31 : decode cX6_strikes 31 = .ok (.getfield 13, 3) := by decide +kernel
theorem dX6_strikes_34 : decode cX6_strikes 34 = .ok (.iconst 2, 1) := by decide +kernel
theorem dX6_strikes_35 : decode cX6_strikes 35 = .ok (.iaload, 1) := by decide +kernel
theorem dX6_strikes_36 : decode cX6_strikes 36 = .ok (.if_icmp .le 7, 3) := by decide +kernel
theorem dX6_strikes_39 : decode cX6_strikes 39 = .ok (.iconst 1, 1) := by decide +kernel
theorem dX6_strikes_40 : decode cX6_strikes 40 = .ok (.goto 4, 3) := by decide +kernel
theorem dX6_strikes_43 : decode cX6_strikes 43 = .ok (.iconst 0, 1) := by decide +kernel
theorem dX6_strikes_44 : decode cX6_strikes 44 = .ok (.ireturn, 1) := by decide +kernel
theorem dX6_isStruck_0 : decode cX6_isStruck 0 = .ok (.iconst 0, 1) := by decide +kernel
theorem dX6_isStruck_1 : decode cX6_isStruck 1 = .ok (.istore_n 2, 1) := by decide +kernel
theorem dX6_isStruck_2 : decode cX6_isStruck 2 = .ok (.iload_n 2, 1) := by decide +kernel
theorem dX6_isStruck_3 : decode cX6_isStruck 3 = .ok (.aload_n 0, 1) := by decide +kernel
theorem dX6_isStruck_4 : decode cX6_isStruck 4 = .ok (.getfield 13, 3) := by decide +kernel
theorem dX6_isStruck_7 : decode cX6_isStruck 7 = .ok (.iconst 3, 1) := by decide +kernel
theorem dX6_isStruck_8 : decode cX6_isStruck 8 = .ok (.iaload, 1) := by decide +kernel
theorem dX6_isStruck_9 : decode cX6_isStruck 9 = .ok (.if_icmp .ge 68, 3) := by decide +kernel
theorem dX6_isStruck_12 : decode cX6_isStruck 12 = .ok (.aload_n 0, 1) := by decide +kernel
theorem dX6_isStruck_13 : decode cX6_isStruck 13 = .ok (.getfield 43, 3) := by decide +kernel
theorem dX6_isStruck_16 : decode cX6_isStruck 16 = .ok (.iload_n 1, 1) := by decide +kernel
theorem dX6_isStruck_17 : decode cX6_isStruck 17 = .ok (.iaload, 1) := by decide +kernel
theorem dX6_isStruck_18 : decode cX6_isStruck 18 = .ok (.ifCond .eq 32, 3) := by decide +kernel
theorem dX6_isStruck_21 : decode cX6_isStruck 21 = .ok (.aload_n 0, 1) := by decide +kernel
theorem dX6_isStruck_22 : decode cX6_isStruck 22 = .ok (.getfield 43, 3) := by decide +kernel
theorem dX6_isStruck_25 : decode cX6_isStruck 25 = .ok (.iload_n 2, 1) := by decide +kernel
theorem dX6_isStruck_26 : decode cX6_isStruck 26 = .ok (.iaload, 1) := by decide +kernel
theorem dX6_isStruck_27 : decode cX6_isStruck 27 = .ok (.ifCond .eq 19, 3) := by decide +kernel
theorem dX6_isStruck_30 : decode cX6_isStruck 30 = .ok (.aload_n 0, 1) := by decide +kernel
theorem dX6_isStruck_31 : decode cX6_isStruck 31 = .ok (.getfield 43, 3) := by decide +kernel
theorem dX6_isStruck_34 : decode cX6_isStruck 34 = .ok (.iload_n 2, 1) := by decide +kernel
theorem dX6_isStruck_35 : decode cX6_isStruck 35 = .ok (.iaload, 1) := by decide +kernel
theorem dX6_isStruck_36 : decode cX6_isStruck 36 = .ok (.aload_n 0, 1) := by decide +kernel
theorem dX6_isStruck_37 : decode cX6_isStruck 37 = .ok (.getfield 43, 3) := by decide +kernel
theorem dX6_isStruck_40 : decode cX6_isStruck 40 = .ok (.iload_n 1, 1) := by decide +kernel
theorem dX6_isStruck_41 : decode cX6_isStruck 41 = .ok (.iaload, 1) := by decide +kernel
theorem dX6_isStruck_42 : decode cX6_isStruck 42 = .ok (.ineg, 1) := by decide +kernel
theorem dX6_isStruck_43 : decode cX6_isStruck 43 = .ok (.if_icmp .ne 7, 3) := by decide +kernel
theorem dX6_isStruck_46 : decode cX6_isStruck 46 = .ok (.iconst 1, 1) := by decide +kernel
theorem dX6_isStruck_47 : decode cX6_isStruck 47 = .ok (.goto 4, 3) := by decide +kernel
theorem dX6_isStruck_50 : decode cX6_isStruck 50 = .ok (.iconst 0, 1) := by decide +kernel
theorem dX6_isStruck_51 : decode cX6_isStruck 51 = .ok (.istore_n 3, 1) := by decide +kernel
theorem dX6_isStruck_52 : decode cX6_isStruck 52 = .ok (.aload_n 0, 1) := by decide +kernel
theorem dX6_isStruck_53 : decode cX6_isStruck 53 = .ok (.iload_n 2, 1) := by decide +kernel
theorem dX6_isStruck_54 : decode cX6_isStruck 54 = .ok (.invokevirtual 131, 3) := by decide +kernel
theorem dX6_isStruck_57 : decode cX6_isStruck 57 = .ok (.ifCond .eq 14, 3) := by decide +kernel
theorem dX6_isStruck_60 : decode cX6_isStruck 60 = .ok (.iload_n 2, 1) := by decide +kernel
theorem dX6_isStruck_61 : decode cX6_isStruck 61 = .ok (.iload_n 1, 1) := by decide +kernel
theorem dX6_isStruck_62 : decode cX6_isStruck 62 = .ok (.if_icmp .eq 7, 3) := by decide +kernel
theorem dX6_isStruck_65 : decode cX6_isStruck 65 = .ok (.iload_n 3, 1) := by decide +kernel
theorem dX6_isStruck_66 : decode cX6_isStruck 66 = .ok (.ifCond .eq 5, 3) := by decide +kernel
theorem dX6_isStruck_69 : decode cX6_isStruck 69 = .ok (.iconst 1, 1) := by decide +kernel
theorem dX6_isStruck_70 : decode cX6_isStruck 70 = .ok (.ireturn, 1) := by decide +kernel
theorem dX6_isStruck_71 : decode cX6_isStruck 71 = .ok (.iinc 2 1, 3) := by decide +kernel
theorem dX6_isStruck_74 : decode cX6_isStruck 74 = .ok (.goto (-72), 3) := by decide +kernel
theorem dX6_isStruck_77 : decode cX6_isStruck 77 = .ok (.iconst 0, 1) := by decide +kernel
theorem dX6_isStruck_78 : decode cX6_isStruck 78 = .ok (.ireturn, 1) := by decide +kernel
theorem dX6_touches_0 : decode cX6_touches 0 = .ok (.iconst 0, 1) := by decide +kernel
theorem dX6_touches_1 : decode cX6_touches 1 = .ok (.istore_n 2, 1) := by decide +kernel
theorem dX6_touches_2 : decode cX6_touches 2 = .ok (.iload_n 2, 1) := by decide +kernel
theorem dX6_touches_3 : decode cX6_touches 3 = .ok (.aload_n 0, 1) := by decide +kernel
theorem dX6_touches_4 : decode cX6_touches 4 = .ok (.getfield 13, 3) := by decide +kernel
theorem dX6_touches_7 : decode cX6_touches 7 = .ok (.iconst 3, 1) := by decide +kernel
theorem dX6_touches_8 : decode cX6_touches 8 = .ok (.iaload, 1) := by decide +kernel
theorem dX6_touches_9 : decode cX6_touches 9 = .ok (.if_icmp .ge 97, 3) := by decide +kernel
theorem dX6_touches_12 : decode cX6_touches 12 = .ok (.iload_n 2, 1) := by decide +kernel
theorem dX6_touches_13 : decode cX6_touches 13 = .ok (.iload_n 1, 1) := by decide +kernel
theorem dX6_touches_14 : decode cX6_touches 14 = .ok (.if_icmp .eq 28, 3) := by decide +kernel
theorem dX6_touches_17 : decode cX6_touches 17 = .ok (.aload_n 0, 1) := by decide +kernel
theorem dX6_touches_18 : decode cX6_touches 18 = .ok (.getfield 13, 3) := by decide +kernel
theorem dX6_touches_21 : decode cX6_touches 21 = .ok (.iconst 4, 1) := by decide +kernel
theorem dX6_touches_22 : decode cX6_touches 22 = .ok (.iload_n 2, 1) := by decide +kernel
theorem dX6_touches_23 : decode cX6_touches 23 = .ok (.iadd, 1) := by decide +kernel
theorem dX6_touches_24 : decode cX6_touches 24 = .ok (.iaload, 1) := by decide +kernel
theorem dX6_touches_25 : decode cX6_touches 25 = .ok (.iconst 2, 1) := by decide +kernel
theorem dX6_touches_26 : decode cX6_touches 26 = .ok (.if_icmp .ne 16, 3) := by decide +kernel
theorem dX6_touches_29 : decode cX6_touches 29 = .ok (.aload_n 0, 1) := by decide +kernel
theorem dX6_touches_30 : decode cX6_touches 30 = .ok (.getfield 37, 3) := by decide +kernel
theorem dX6_touches_33 : decode cX6_touches 33 = .ok (.iload_n 2, 1) := by decide +kernel
theorem dX6_touches_34 : decode cX6_touches 34 = .ok (.iaload, 1) := by decide +kernel
theorem dX6_touches_35 : decode cX6_touches 35 = .ok (.ifCond .lt 7, 3) := by decide +kernel
theorem dX6_touches_38 : decode cX6_touches 38 = .ok (.iconst 1, 1) := by decide +kernel
theorem dX6_touches_39 : decode cX6_touches 39 = .ok (.goto 4, 3) := by decide +kernel
theorem dX6_touches_42 : decode cX6_touches 42 = .ok (.iconst 0, 1) := by decide +kernel
theorem dX6_touches_43 : decode cX6_touches 43 = .ok (.istore_n 3, 1) := by decide +kernel
theorem dX6_touches_44 : decode cX6_touches 44 = .ok (.iload_n 3, 1) := by decide +kernel
theorem dX6_touches_45 : decode cX6_touches 45 = .ok (.ifCond .eq 55, 3) := by decide +kernel
theorem dX6_touches_48 : decode cX6_touches 48 = .ok (.aload_n 0, 1) := by decide +kernel
theorem dX6_touches_49 : decode cX6_touches 49 = .ok (.getfield 37, 3) := by decide +kernel
theorem dX6_touches_52 : decode cX6_touches 52 = .ok (.iload_n 2, 1) := by decide +kernel
theorem dX6_touches_53 : decode cX6_touches 53 = .ok (.iaload, 1) := by decide +kernel
theorem dX6_touches_54 : decode cX6_touches 54 = .ok (.aload_n 0, 1) := by decide +kernel
theorem dX6_touches_55 : decode cX6_touches 55 = .ok (.getfield 13, 3) := by decide +kernel
theorem dX6_touches_58 : decode cX6_touches 58 = .ok (.bipush 11, 2) := by decide +kernel
theorem dX6_touches_60 : decode cX6_touches 60 = .ok (.iload_n 2, 1) := by decide +kernel
theorem dX6_touches_61 : decode cX6_touches 61 = .ok (.iadd, 1) := by decide +kernel
theorem dX6_touches_62 : decode cX6_touches 62 = .ok (.iaload, 1) := by decide +kernel
theorem dX6_touches_63 : decode cX6_touches 63 = .ok (.iadd, 1) := by decide +kernel
theorem dX6_touches_64 : decode cX6_touches 64 = .ok (.aload_n 0, 1) := by decide +kernel
theorem dX6_touches_65 : decode cX6_touches 65 = .ok (.getfield 37, 3) := by decide +kernel
theorem dX6_touches_68 : decode cX6_touches 68 = .ok (.iload_n 1, 1) := by decide +kernel
theorem dX6_touches_69 : decode cX6_touches 69 = .ok (.iaload, 1) := by decide +kernel
theorem dX6_touches_70 : decode cX6_touches 70 = .ok (.if_icmp .eq 28, 3) := by decide +kernel
theorem dX6_touches_73 : decode cX6_touches 73 = .ok (.aload_n 0, 1) := by decide +kernel
theorem dX6_touches_74 : decode cX6_touches 74 = .ok (.getfield 37, 3) := by decide +kernel
theorem dX6_touches_77 : decode cX6_touches 77 = .ok (.iload_n 1, 1) := by decide +kernel
theorem dX6_touches_78 : decode cX6_touches 78 = .ok (.iaload, 1) := by decide +kernel
theorem dX6_touches_79 : decode cX6_touches 79 = .ok (.aload_n 0, 1) := by decide +kernel
theorem dX6_touches_80 : decode cX6_touches 80 = .ok (.getfield 13, 3) := by decide +kernel
theorem dX6_touches_83 : decode cX6_touches 83 = .ok (.bipush 11, 2) := by decide +kernel
theorem dX6_touches_85 : decode cX6_touches 85 = .ok (.iload_n 1, 1) := by decide +kernel
theorem dX6_touches_86 : decode cX6_touches 86 = .ok (.iadd, 1) := by decide +kernel
theorem dX6_touches_87 : decode cX6_touches 87 = .ok (.iaload, 1) := by decide +kernel
theorem dX6_touches_88 : decode cX6_touches 88 = .ok (.iadd, 1) := by decide +kernel
theorem dX6_touches_89 : decode cX6_touches 89 = .ok (.aload_n 0, 1) := by decide +kernel
theorem dX6_touches_90 : decode cX6_touches 90 = .ok (.getfield 37, 3) := by decide +kernel
theorem dX6_touches_93 : decode cX6_touches 93 = .ok (.iload_n 2, 1) := by decide +kernel
theorem dX6_touches_94 : decode cX6_touches 94 = .ok (.iaload, 1) := by decide +kernel
theorem dX6_touches_95 : decode cX6_touches 95 = .ok (.if_icmp .ne 5, 3) := by decide +kernel
theorem dX6_touches_98 : decode cX6_touches 98 = .ok (.iconst 1, 1) := by decide +kernel
theorem dX6_touches_99 : decode cX6_touches 99 = .ok (.ireturn, 1) := by decide +kernel
theorem dX6_touches_100 : decode cX6_touches 100 = .ok (.iinc 2 1, 3) := by decide +kernel
theorem dX6_touches_103 : decode cX6_touches 103 = .ok (.goto (-101), 3) := by decide +kernel
theorem dX6_touches_106 : decode cX6_touches 106 = .ok (.iconst 0, 1) := by decide +kernel
theorem dX6_touches_107 : decode cX6_touches 107 = .ok (.ireturn, 1) := by decide +kernel
theorem dX6_comesClean_0 : decode cX6_comesClean 0 = .ok (.aload_n 0, 1) := by decide +kernel
theorem dX6_comesClean_1 : decode cX6_comesClean 1 = .ok (.getfield 13, 3) := by decide +kernel
theorem dX6_comesClean_4 : decode cX6_comesClean 4 = .ok (.iconst 4, 1) := by decide +kernel
theorem dX6_comesClean_5 : decode cX6_comesClean 5 = .ok (.iload_n 1, 1) := by decide +kernel
theorem dX6_comesClean_6 : decode cX6_comesClean 6 = .ok (.iadd, 1) := by decide +kernel
theorem dX6_comesClean_7 : decode cX6_comesClean 7 = .ok (.iaload, 1) := by decide +kernel
theorem dX6_comesClean_8 : decode cX6_comesClean 8 = .ok (.istore_n 3, 1) := by decide +kernel
theorem dX6_comesClean_9 : decode cX6_comesClean 9 = .ok (.aload_n 0, 1) := by decide +kernel
theorem dX6_comesClean_10 : decode cX6_comesClean 10 = .ok (.getfield 13, 3) := by decide +kernel
theorem dX6_comesClean_13 : decode cX6_comesClean 13 = .ok (.bipush 25, 2) := by decide +kernel
theorem dX6_comesClean_15 : decode cX6_comesClean 15 = .ok (.iload_n 1, 1) := by decide +kernel
