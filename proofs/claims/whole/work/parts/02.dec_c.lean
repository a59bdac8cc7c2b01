theorem dX11_init_0 : decode cX11_init 0 = .ok (.aload_n 0, 1) := by decide +kernel
theorem dX11_init_1 : decode cX11_init 1 = .ok (.invokespecial 1, 3) := by decide +kernel
theorem dX11_init_4 : decode cX11_init 4 = .ok (.aload_n 0, 1) := by decide +kernel
theorem dX11_init_5 : decode cX11_init 5 = .ok (.sipush 900, 3) := by decide +kernel
theorem dX11_init_8 : decode cX11_init 8 = .ok (.newarray .byte, 2) := by decide +kernel
theorem dX11_init_10 : decode cX11_init 10 = .ok (.putfield 9, 3) := by decide +kernel
theorem dX11_init_13 : decode cX11_init 13 = .ok (.aload_n 0, 1) := by decide +kernel
theorem dX11_init_14 : decode cX11_init 14 = .ok (.iconst 0, 1) := by decide +kernel
theorem dX11_init_15 : decode cX11_init 15 = .ok (.putfield 13, 3) := by decide +kernel
theorem dX11_init_18 : decode cX11_init 18 = .ok (.aload_n 0, 1) := by decide +kernel
theorem dX11_init_19 : decode cX11_init 19 = .ok (.new 17, 3) := by decide +kernel
theorem dX11_init_22 : decode cX11_init 22 = .ok (.dup, 1) := by decide +kernel
theorem dX11_init_23 : decode cX11_init 23 = .ok (.invokespecial 19, 3) := by decide +kernel
theorem dX11_init_26 : decode cX11_init 26 = .ok (.putfield 20, 3) := by decide +kernel
theorem dX11_init_29 : decode cX11_init 29 = .ok (.aload_n 0, 1) := by decide +kernel
theorem dX11_init_30 : decode cX11_init 30 = .ok (.new 24, 3) := by decide +kernel
theorem dX11_init_33 : decode cX11_init 33 = .ok (.dup, 1) := by decide +kernel
theorem dX11_init_34 : decode cX11_init 34 = .ok (.invokespecial 26, 3) := by decide +kernel
theorem dX11_init_37 : decode cX11_init 37 = .ok (.putfield 27, 3) := by decide +kernel
theorem dX11_init_40 : decode cX11_init 40 = .ok (.aload_n 0, 1) := by decide +kernel
theorem dX11_init_41 : decode cX11_init 41 = .ok (.new 31, 3) := by decide +kernel
theorem dX11_init_44 : decode cX11_init 44 = .ok (.dup, 1) := by decide +kernel
theorem dX11_init_45 : decode cX11_init 45 = .ok (.invokespecial 33, 3) := by decide +kernel
theorem dX11_init_48 : decode cX11_init 48 = .ok (.putfield 34, 3) := by decide +kernel
theorem dX11_init_51 : decode cX11_init 51 = .ok (.aload_n 0, 1) := by decide +kernel
theorem dX11_init_52 : decode cX11_init 52 = .ok (.new 31, 3) := by decide +kernel
theorem dX11_init_55 : decode cX11_init 55 = .ok (.dup, 1) := by decide +kernel
theorem dX11_init_56 : decode cX11_init 56 = .ok (.invokespecial 33, 3) := by decide +kernel
theorem dX11_init_59 : decode cX11_init 59 = .ok (.putfield 38, 3) := by decide +kernel
theorem dX11_init_62 : decode cX11_init 62 = .ok (.aload_n 0, 1) := by decide +kernel
theorem dX11_init_63 : decode cX11_init 63 = .ok (.bipush 11, 2) := by decide +kernel
theorem dX11_init_65 : decode cX11_init 65 = .ok (.anewarray 31, 3) := by decide +kernel
theorem dX11_init_68 : decode cX11_init 68 = .ok (.putfield 41, 3) := by decide +kernel
theorem dX11_init_71 : decode cX11_init 71 = .ok (.aload_n 0, 1) := by decide +kernel
theorem dX11_init_72 : decode cX11_init 72 = .ok (.iconst 0, 1) := by decide +kernel
theorem dX11_init_73 : decode cX11_init 73 = .ok (.putfield 45, 3) := by decide +kernel
theorem dX11_init_76 : decode cX11_init 76 = .ok (.aload_n 0, 1) := by decide +kernel
theorem dX11_init_77 : decode cX11_init 77 = .ok (.iconst 0, 1) := by decide +kernel
theorem dX11_init_78 : decode cX11_init 78 = .ok (.putfield 48, 3) := by decide +kernel
theorem dX11_init_81 : decode cX11_init 81 = .ok (.aload_n 0, 1) := by decide +kernel
theorem dX11_init_82 : decode cX11_init 82 = .ok (.iconst 4, 1) := by decide +kernel
theorem dX11_init_83 : decode cX11_init 83 = .ok (.anewarray 51, 3) := by decide +kernel
theorem dX11_init_86 : decode cX11_init 86 = .ok (.putfield 53, 3) := by decide +kernel
theorem dX11_init_89 : decode cX11_init 89 = .ok (.aload_n 0, 1) := by decide +kernel
theorem dX11_init_90 : decode cX11_init 90 = .ok (.iconst 2, 1) := by decide +kernel
theorem dX11_init_91 : decode cX11_init 91 = .ok (.anewarray 24, 3) := by decide +kernel
theorem dX11_init_94 : decode cX11_init 94 = .ok (.putfield 57, 3) := by decide +kernel
theorem dX11_init_97 : decode cX11_init 97 = .ok (.aload_n 0, 1) := by decide +kernel
theorem dX11_init_98 : decode cX11_init 98 = .ok (.iconst 2, 1) := by decide +kernel
theorem dX11_init_99 : decode cX11_init 99 = .ok (.anewarray 31, 3) := by decide +kernel
theorem dX11_init_102 : decode cX11_init 102 = .ok (.putfield 61, 3) := by decide +kernel
theorem dX11_init_105 : decode cX11_init 105 = .ok (.aload_n 0, 1) := by decide +kernel
theorem dX11_init_106 : decode cX11_init 106 = .ok (.iconst 2, 1) := by decide +kernel
theorem dX11_init_107 : decode cX11_init 107 = .ok (.newarray .boolean, 2) := by decide +kernel
theorem dX11_init_109 : decode cX11_init 109 = .ok (.putfield 64, 3) := by decide +kernel
theorem dX11_init_112 : decode cX11_init 112 = .ok (.aload_n 0, 1) := by decide +kernel
theorem dX11_init_113 : decode cX11_init 113 = .ok (.new 68, 3) := by decide +kernel
theorem dX11_init_116 : decode cX11_init 116 = .ok (.dup, 1) := by decide +kernel
theorem dX11_init_117 : decode cX11_init 117 = .ok (.aload_n 0, 1) := by decide +kernel
theorem dX11_init_118 : decode cX11_init 118 = .ok (.getfield 27, 3) := by decide +kernel
theorem dX11_init_121 : decode cX11_init 121 = .ok (.invokespecial 70, 3) := by decide +kernel
theorem dX11_init_124 : decode cX11_init 124 = .ok (.putfield 73, 3) := by decide +kernel
theorem dX11_init_127 : decode cX11_init 127 = .ok (.aload_n 0, 1) := by decide +kernel
theorem dX11_init_128 : decode cX11_init 128 = .ok (.new 77, 3) := by decide +kernel
theorem dX11_init_131 : decode cX11_init 131 = .ok (.dup, 1) := by decide +kernel
theorem dX11_init_132 : decode cX11_init 132 = .ok (.aload_n 0, 1) := by decide +kernel
theorem dX11_init_133 : decode cX11_init 133 = .ok (.getfield 27, 3) := by decide +kernel
theorem dX11_init_136 : decode cX11_init 136 = .ok (.invokespecial 79, 3) := by decide +kernel
theorem dX11_init_139 : decode cX11_init 139 = .ok (.putfield 80, 3) := by decide +kernel
theorem dX11_init_142 : decode cX11_init 142 = .ok (.aload_n 0, 1) := by decide +kernel
theorem dX11_init_143 : decode cX11_init 143 = .ok (.new 84, 3) := by decide +kernel
theorem dX11_init_146 : decode cX11_init 146 = .ok (.dup, 1) := by decide +kernel
theorem dX11_init_147 : decode cX11_init 147 = .ok (.aload_n 0, 1) := by decide +kernel
theorem dX11_init_148 : decode cX11_init 148 = .ok (.getfield 27, 3) := by decide +kernel
theorem dX11_init_151 : decode cX11_init 151 = .ok (.aload_n 0, 1) := by decide +kernel
theorem dX11_init_152 : decode cX11_init 152 = .ok (.getfield 34, 3) := by decide +kernel
theorem dX11_init_155 : decode cX11_init 155 = .ok (.invokespecial 86, 3) := by decide +kernel
theorem dX11_init_158 : decode cX11_init 158 = .ok (.putfield 89, 3) := by decide +kernel
theorem dX11_init_161 : decode cX11_init 161 = .ok (.aload_n 0, 1) := by decide +kernel
theorem dX11_init_162 : decode cX11_init 162 = .ok (.new 93, 3) := by decide +kernel
theorem dX11_init_165 : decode cX11_init 165 = .ok (.dup, 1) := by decide +kernel
theorem dX11_init_166 : decode cX11_init 166 = .ok (.aload_n 0, 1) := by decide +kernel
theorem dX11_init_167 : decode cX11_init 167 = .ok (.getfield 27, 3) := by decide +kernel
theorem dX11_init_170 : decode cX11_init 170 = .ok (.aload_n 0, 1) := by decide +kernel
theorem dX11_init_171 : decode cX11_init 171 = .ok (.getfield 34, 3) := by decide +kernel
theorem dX11_init_174 : decode cX11_init 174 = .ok (.invokespecial 95, 3) := by decide +kernel
theorem dX11_init_177 : decode cX11_init 177 = .ok (.putfield 96, 3) := by decide +kernel
theorem dX11_init_180 : decode cX11_init 180 = .ok (.aload_n 0, 1) := by decide +kernel
theorem dX11_init_181 : decode cX11_init 181 = .ok (.new 100, 3) := by decide +kernel
theorem dX11_init_184 : decode cX11_init 184 = .ok (.dup, 1) := by decide +kernel
theorem dX11_init_185 : decode cX11_init 185 = .ok (.aload_n 0, 1) := by decide +kernel
theorem dX11_init_186 : decode cX11_init 186 = .ok (.getfield 27, 3) := by decide +kernel
theorem dX11_init_189 : decode cX11_init 189 = .ok (.aload_n 0, 1) := by decide +kernel
theorem dX11_init_190 : decode cX11_init 190 = .ok (.getfield 34, 3) := by decide +kernel
theorem dX11_init_193 : decode cX11_init 193 = .ok (.invokespecial 102, 3) := by decide +kernel
theorem dX11_init_196 : decode cX11_init 196 = .ok (.putfield 103, 3) := by decide +kernel
theorem dX11_init_199 : decode cX11_init 199 = .ok (.iconst 0, 1) := by decide +kernel
theorem dX11_init_200 : decode cX11_init 200 = .ok (.istore_n 1, 1) := by decide +kernel
theorem dX11_init_201 : decode cX11_init 201 = .ok (.iload_n 1, 1) := by decide +kernel
theorem dX11_init_202 : decode cX11_init 202 = .ok (.aload_n 0, 1) := by decide +kernel
theorem dX11_init_203 : decode cX11_init 203 = .ok (.getfield 41, 3) := by decide +kernel
theorem dX11_init_206 : decode cX11_init 206 = .ok (.arraylength, 1) := by decide +kernel
theorem dX11_init_207 : decode cX11_init 207 = .ok (.if_icmp .ge 22, 3) := by decide +kernel
theorem dX11_init_210 : decode cX11_init 210 = .ok (.aload_n 0, 1) := by decide +kernel
theorem dX11_init_211 : decode cX11_init 211 = .ok (.getfield 41, 3) := by decide +kernel
theorem dX11_init_214 : decode cX11_init 214 = .ok (.iload_n 1, 1) := by decide +kernel
theorem dX11_init_215 : decode cX11_init 215 = .ok (.new 31, 3) := by decide +kernel
theorem dX11_init_218 : decode cX11_init 218 = .ok (.dup, 1) := by decide +kernel
theorem dX11_init_219 : decode cX11_init 219 = .ok (.invokespecial 33, 3) := by decide +kernel
theorem dX11_init_222 : decode cX11_init 222 = .ok (.aastore, 1) := by decide +kernel
theorem dX11_init_223 : decode cX11_init 223 = .ok (.iinc 1 1, 3) := by decide +kernel
theorem dX11_init_226 : decode cX11_init 226 = .ok (.goto (-25), 3) := by decide +kernel
theorem dX11_init_229 : decode cX11_init 229 = .ok (.iconst 0, 1) := by decide +kernel
theorem dX11_init_230 : decode cX11_init 230 = .ok (.istore_n 1, 1) := by decide +kernel
theorem dX11_init_231 : decode cX11_init 231 = .ok (.iload_n 1, 1) := by decide +kernel
theorem dX11_init_232 : decode cX11_init 232 = .ok (.aload_n 0, 1) := by decide +kernel
theorem dX11_init_233 : decode cX11_init 233 = .ok (.getfield 53, 3) := by decide +kernel
theorem dX11_init_236 : decode cX11_init 236 = .ok (.arraylength, 1) := by decide +kernel
theorem dX11_init_237 : decode cX11_init 237 = .ok (.if_icmp .ge 22, 3) := by decide +kernel
theorem dX11_init_240 : decode cX11_init 240 = .ok (.aload_n 0, 1) := by decide +kernel
theorem dX11_init_241 : decode cX11_init 241 = .ok (.getfield 53, 3) := by decide +kernel
theorem dX11_init_244 : decode cX11_init 244 = .ok (.iload_n 1, 1) := by decide +kernel
theorem dX11_init_245 : decode cX11_init 245 = .ok (.new 51, 3) := by decide +kernel
theorem dX11_init_248 : decode cX11_init 248 = .ok (.dup, 1) := by decide +kernel
theorem dX11_init_249 : decode cX11_init 249 = .ok (.invokespecial 107, 3) := by decide +kernel
theorem dX11_init_252 : decode cX11_init 252 = .ok (.aastore, 1) := by decide +kernel
theorem dX11_init_253 : decode cX11_init 253 = .ok (.iinc 1 1, 3) := by decide +kernel
theorem dX11_init_256 : decode cX11_init 256 = .ok (.goto (-25), 3) := by decide +kernel
theorem dX11_init_259 : decode cX11_init 259 = .ok (.iconst 0, 1) := by decide +kernel
theorem dX11_init_260 : decode cX11_init 260 = .ok (.istore_n 1, 1) := by decide +kernel
theorem dX11_init_261 : decode cX11_init 261 = .ok (.iload_n 1, 1) := by decide +kernel
theorem dX11_init_262 : decode cX11_init 262 = .ok (.iconst 2, 1) := by decide +kernel
theorem dX11_init_263 : decode cX11_init 263 = .ok (.if_icmp .ge 35, 3) := by decide +kernel
theorem dX11_init_266 : decode cX11_init 266 = .ok (.aload_n 0, 1) := by decide +kernel
theorem dX11_init_267 : decode cX11_init 267 = .ok (.getfield 57, 3) := by decide +kernel
theorem dX11_init_270 : decode cX11_init 270 = .ok (.iload_n 1, 1) := by decide +kernel
theorem dX11_init_271 : decode cX11_init 271 = .ok (.new 24, 3) := by decide +kernel
theorem dX11_init_274 : decode cX11_init 274 = .ok (.dup, 1) := by decide +kernel
theorem dX11_init_275 : decode cX11_init 275 = .ok (.invokespecial 26, 3) := by decide +kernel
theorem dX11_init_278 : decode cX11_init 278 = .ok (.aastore, 1) := by decide +kernel
theorem dX11_init_279 : decode cX11_init 279 = .ok (.aload_n 0, 1) := by decide +kernel
theorem dX11_init_280 : decode cX11_init 280 = .ok (.getfield 61, 3) := by decide +kernel
theorem dX11_init_283 : decode cX11_init 283 = .ok (.iload_n 1, 1) := by decide +kernel
theorem dX11_init_284 : decode cX11_init 284 = .ok (.new 31, 3) := by decide +kernel
theorem dX11_init_287 : decode cX11_init 287 = .ok (.dup, 1) := by decide +kernel
theorem dX11_init_288 : decode cX11_init 288 = .ok (.invokespecial 33, 3) := by decide +kernel
theorem dX11_init_291 : decode cX11_init 291 = .ok (.aastore, 1) := by decide +kernel
theorem dX11_init_292 : decode cX11_init 292 = .ok (.iinc 1 1, 3) := by decide +kernel
theorem dX11_init_295 : decode cX11_init 295 = .ok (.goto (-34), 3) := by decide +kernel
theorem dX11_init_298 : decode cX11_init 298 = .ok (.return_, 1) := by decide +kernel
theorem dX11_feed_0 : decode cX11_feed 0 = .ok (.aload_n 0, 1) := by decide +kernel
theorem dX11_feed_1 : decode cX11_feed 1 = .ok (.getfield 13, 3) := by decide +kernel
theorem dX11_feed_4 : decode cX11_feed 4 = .ok (.bipush 20, 2) := by decide +kernel
theorem dX11_feed_6 : decode cX11_feed 6 = .ok (.iadd, 1) := by decide +kernel
theorem dX11_feed_7 : decode cX11_feed 7 = .ok (.sipush 900, 3) := by decide +kernel
theorem dX11_feed_10 : decode cX11_feed 10 = .ok (.if_icmp .le 6, 3) := by decide +kernel
theorem dX11_feed_13 : decode cX11_feed 13 = .ok (.bipush (-5), 2) := by decide +kernel
theorem dX11_feed_15 : decode cX11_feed 15 = .ok (.ireturn, 1) := by decide +kernel
theorem dX11_feed_16 : decode cX11_feed 16 = .ok (.aload_n 0, 1) := by decide +kernel
theorem dX11_feed_17 : decode cX11_feed 17 = .ok (.iload_n 1, 1) := by decide +kernel
theorem dX11_feed_18 : decode cX11_feed 18 = .ok (.invokevirtual 108, 3) := by decide +kernel
theorem dX11_feed_21 : decode cX11_feed 21 = .ok (.aload_n 0, 1) := by decide +kernel
theorem dX11_feed_22 : decode cX11_feed 22 = .ok (.iload_n 2, 1) := by decide +kernel
theorem dX11_feed_23 : decode cX11_feed 23 = .ok (.invokevirtual 108, 3) := by decide +kernel
theorem dX11_feed_26 : decode cX11_feed 26 = .ok (.aload_n 0, 1) := by decide +kernel
theorem dX11_feed_27 : decode cX11_feed 27 = .ok (.iload_n 3, 1) := by decide +kernel
theorem dX11_feed_28 : decode cX11_feed 28 = .ok (.invokevirtual 108, 3) := by decide +kernel
theorem dX11_feed_31 : decode cX11_feed 31 = .ok (.aload_n 0, 1) := by decide +kernel
theorem dX11_feed_32 : decode cX11_feed 32 = .ok (.iload 4, 2) := by decide +kernel
theorem dX11_feed_34 : decode cX11_feed 34 = .ok (.invokevirtual 108, 3) := by decide +kernel
theorem dX11_feed_37 : decode cX11_feed 37 = .ok (.aload_n 0, 1) := by decide +kernel
theorem dX11_feed_38 : decode cX11_feed 38 = .ok (.iload 5, 2) := by decide +kernel
theorem dX11_feed_40 : decode cX11_feed 40 = .ok (.invokevirtual 108, 3) := by decide +kernel
theorem dX11_feed_43 : decode cX11_feed 43 = .ok (.aload_n 0, 1) := by decide +kernel
theorem dX11_feed_44 : decode cX11_feed 44 = .ok (.getfield 13, 3) := by decide +kernel
theorem dX11_feed_47 : decode cX11_feed 47 = .ok (.ireturn, 1) := by decide +kernel
theorem dX11_house_0 : decode cX11_house 0 = .ok (.iload_n 1, 1) := by decide +kernel
theorem dX11_house_1 : decode cX11_house 1 = .ok (.ifCond .lt 11, 3) := by decide +kernel
theorem dX11_house_4 : decode cX11_house 4 = .ok (.iload_n 1, 1) := by decide +kernel
theorem dX11_house_5 : decode cX11_house 5 = .ok (.aload_n 0, 1) := by decide +kernel
theorem dX11_house_6 : decode cX11_house 6 = .ok (.getfield 13, 3) := by decide +kernel
theorem dX11_house_9 : decode cX11_house 9 = .ok (.if_icmp .le 6, 3) := by decide +kernel
theorem dX11_house_12 : decode cX11_house 12 = .ok (.bipush (-3), 2) := by decide +kernel
theorem dX11_house_14 : decode cX11_house 14 = .ok (.ireturn, 1) := by decide +kernel
theorem dX11_house_15 : decode cX11_house 15 = .ok (.aload_n 0, 1) := by decide +kernel
theorem dX11_house_16 : decode cX11_house 16 = .ok (.iconst 0, 1) := by decide +kernel
theorem dX11_house_17 : decode cX11_house 17 = .ok (.putfield 13, 3) := by decide +kernel
theorem dX11_house_20 : decode cX11_house 20 = .ok (.aload_n 0, 1) := by decide +kernel
theorem dX11_house_21 : decode cX11_house 21 = .ok (.getfield 20, 3) := by decide +kernel
theorem dX11_house_24 : decode cX11_house 24 = .ok (.aload_n 0, 1) := by decide +kernel
theorem dX11_house_25 : decode cX11_house 25 = .ok (.getfield 9, 3) := by decide +kernel
theorem dX11_house_28 : decode cX11_house 28 = .ok (.iload_n 1, 1) := by decide +kernel
theorem dX11_house_29 : decode cX11_house 29 = .ok (.invokevirtual 112, 3) := by decide +kernel
theorem dX11_house_32 : decode cX11_house 32 = .ok (.ifCond .ne 14, 3) := by decide +kernel
theorem dX11_house_35 : decode cX11_house 35 = .ok (.bipush (-30), 2) := by decide +kernel
theorem dX11_house_37 : decode cX11_house 37 = .ok (.aload_n 0, 1) := by decide +kernel
theorem dX11_house_38 : decode cX11_house 38 = .ok (.getfield 20, 3) := by decide +kernel
theorem dX11_house_41 : decode cX11_house 41 = .ok (.getfield 116, 3) := by decide +kernel
theorem dX11_house_44 : decode cX11_house 44 = .ok (.isub, 1) := by decide +kernel
theorem dX11_house_45 : decode cX11_house 45 = .ok (.ireturn, 1) := by decide +kernel
theorem dX11_house_46 : decode cX11_house 46 = .ok (.aload_n 0, 1) := by decide +kernel
theorem dX11_house_47 : decode cX11_house 47 = .ok (.getfield 27, 3) := by decide +kernel
theorem dX11_house_50 : decode cX11_house 50 = .ok (.aload_n 0, 1) := by decide +kernel
theorem dX11_house_51 : decode cX11_house 51 = .ok (.getfield 20, 3) := by decide +kernel
theorem dX11_house_54 : decode cX11_house 54 = .ok (.getfield 119, 3) := by decide +kernel
theorem dX11_house_57 : decode cX11_house 57 = .ok (.invokevirtual 122, 3) := by decide +kernel
theorem dX11_house_60 : decode cX11_house 60 = .ok (.aload_n 0, 1) := by decide +kernel
theorem dX11_house_61 : decode cX11_house 61 = .ok (.getfield 34, 3) := by decide +kernel
theorem dX11_house_64 : decode cX11_house 64 = .ok (.aload_n 0, 1) := by decide +kernel
theorem dX11_house_65 : decode cX11_house 65 = .ok (.getfield 20, 3) := by decide +kernel
theorem dX11_house_68 : decode cX11_house 68 = .ok (.getfield 125, 3) := by decide +kernel
theorem dX11_house_71 : decode cX11_house 71 = .ok (.invokevirtual 126, 3) := by decide +kernel
theorem dX11_house_74 : decode cX11_house 74 = .ok (.aload_n 0, 1) := by decide +kernel
theorem dX11_house_75 : decode cX11_house 75 = .ok (.iconst 0, 1) := by decide +kernel
theorem dX11_house_76 : decode cX11_house 76 = .ok (.putfield 48, 3) := by decide +kernel
theorem dX11_house_79 : decode cX11_house 79 = .ok (.aload_n 0, 1) := by decide +kernel
theorem dX11_house_80 : decode cX11_house 80 = .ok (.getfield 27, 3) := by decide +kernel
theorem dX11_house_83 : decode cX11_house 83 = .ok (.getfield 129, 3) := by decide +kernel
theorem dX11_house_86 : decode cX11_house 86 = .ok (.ireturn, 1) := by decide +kernel
theorem dX11_fault_0 : decode cX11_fault 0 = .ok (.iload_n 1, 1) := by decide +kernel
theorem dX11_fault_1 : decode cX11_fault 1 = .ok (.lookupswitch 43 #[(0, 27), (1, 35)], 27) := by decide +kernel
theorem dX11_fault_28 : decode cX11_fault 28 = .ok (.aload_n 0, 1) := by decide +kernel
theorem dX11_fault_29 : decode cX11_fault 29 = .ok (.getfield 20, 3) := by decide +kernel
theorem dX11_fault_32 : decode cX11_fault 32 = .ok (.getfield 116, 3) := by decide +kernel
theorem dX11_fault_35 : decode cX11_fault 35 = .ok (.ireturn, 1) := by decide +kernel
theorem dX11_fault_36 : decode cX11_fault 36 = .ok (.aload_n 0, 1) := by decide +kernel
theorem dX11_fault_37 : decode cX11_fault 37 = .ok (.getfield 20, 3) := by decide +kernel
theorem dX11_fault_40 : decode cX11_fault 40 = .ok (.getfield 132, 3) := by decide +kernel
theorem dX11_fault_43 : decode cX11_fault 43 = .ok (.ireturn, 1) := by decide +kernel
theorem dX11_fault_44 : decode cX11_fault 44 = .ok (.iconst (-1), 1) := by decide +kernel
theorem dX11_fault_45 : decode cX11_fault 45 = .ok (.ireturn, 1) := by decide +kernel
theorem dX11_lift_0 : decode cX11_lift 0 = .ok (.aload_n 0, 1) := by decide +kernel
theorem dX11_lift_1 : decode cX11_lift 1 = .ok (.getfield 27, 3) := by decide +kernel
theorem dX11_lift_4 : decode cX11_lift 4 = .ok (.iload_n 1, 1) := by decide +kernel
theorem dX11_lift_5 : decode cX11_lift 5 = .ok (.invokevirtual 135, 3) := by decide +kernel
theorem dX11_lift_8 : decode cX11_lift 8 = .ok (.ifCond .ne 6, 3) := by decide +kernel
theorem dX11_lift_11 : decode cX11_lift 11 = .ok (.bipush (-8), 2) := by decide +kernel
theorem dX11_lift_13 : decode cX11_lift 13 = .ok (.ireturn, 1) := by decide +kernel
theorem dX11_lift_14 : decode cX11_lift 14 = .ok (.iload_n 2, 1) := by decide +kernel
theorem dX11_lift_15 : decode cX11_lift 15 = .ok (.tableswitch 117 0 6 #[41, 51, 61, 71, 81, 87, 97], 41) := by decide +kernel
theorem dX11_lift_56 : decode cX11_lift 56 = .ok (.aload_n 0, 1) := by decide +kernel
theorem dX11_lift_57 : decode cX11_lift 57 = .ok (.getfield 34, 3) := by decide +kernel
theorem dX11_lift_60 : decode cX11_lift 60 = .ok (.getfield 139, 3) := by decide +kernel
theorem dX11_lift_63 : decode cX11_lift 63 = .ok (.iload_n 1, 1) := by decide +kernel
theorem dX11_lift_64 : decode cX11_lift 64 = .ok (.iaload, 1) := by decide +kernel
theorem dX11_lift_65 : decode cX11_lift 65 = .ok (.ireturn, 1) := by decide +kernel
theorem dX11_lift_66 : decode cX11_lift 66 = .ok (.aload_n 0, 1) := by decide +kernel
theorem dX11_lift_67 : decode cX11_lift 67 = .ok (.getfield 34, 3) := by decide +kernel
theorem dX11_lift_70 : decode cX11_lift 70 = .ok (.getfield 143, 3) := by decide +kernel
theorem dX11_lift_73 : decode cX11_lift 73 = .ok (.iload_n 1, 1) := by decide +kernel
theorem dX11_lift_74 : decode cX11_lift 74 = .ok (.iaload, 1) := by decide +kernel
theorem dX11_lift_75 : decode cX11_lift 75 = .ok (.ireturn, 1) := by decide +kernel
theorem dX11_lift_76 : decode cX11_lift 76 = .ok (.aload_n 0, 1) := by decide +kernel
theorem dX11_lift_77 : decode cX11_lift 77 = .ok (.getfield 34, 3) := by decide +kernel
theorem dX11_lift_80 : decode cX11_lift 80 = .ok (.getfield 146, 3) := by decide +kernel
theorem dX11_lift_83 : decode cX11_lift 83 = .ok (.iload_n 1, 1) := by decide +kernel
theorem dX11_lift_84 : decode cX11_lift 84 = .ok (.iaload, 1) := by decide +kernel
theorem dX11_lift_85 : decode cX11_lift 85 = .ok (.ireturn, 1) := by decide +kernel
theorem dX11_lift_86 : decode cX11_lift 86 = .ok (.aload_n 0, 1) := by decide +kernel
theorem dX11_lift_87 : decode cX11_lift 87 = .ok (.getfield 34, 3) := by decide +kernel
theorem dX11_lift_90 : decode cX11_lift 90 = .ok (.getfield 149, 3) := by decide +kernel
theorem dX11_lift_93 : decode cX11_lift 93 = .ok (.iload_n 1, 1) := by decide +kernel
theorem dX11_lift_94 : decode cX11_lift 94 = .ok (.iaload, 1) := by decide +kernel
theorem dX11_lift_95 : decode cX11_lift 95 = .ok (.ireturn, 1) := by decide +kernel
theorem dX11_lift_96 : decode cX11_lift 96 = .ok (.aload_n 0, 1) := by decide +kernel
theorem dX11_lift_97 : decode cX11_lift 97 = .ok (.iload_n 1, 1) := by decide +kernel
theorem dX11_lift_98 : decode cX11_lift 98 = .ok (.invokevirtual 152, 3) := by decide +kernel
theorem dX11_lift_101 : decode cX11_lift 101 = .ok (.ireturn, 1) := by decide +kernel
theorem dX11_lift_102 : decode cX11_lift 102 = .ok (.aload_n 0, 1) := by decide +kernel
theorem dX11_lift_103 : decode cX11_lift 103 = .ok (.getfield 27, 3) := by decide +kernel
theorem dX11_lift_106 : decode cX11_lift 106 = .ok (.getfield 156, 3) := by decide +kernel
theorem dX11_lift_109 : decode cX11_lift 109 = .ok (.iload_n 1, 1) := by decide +kernel
theorem dX11_lift_110 : decode cX11_lift 110 = .ok (.iaload, 1) := by decide +kernel
theorem dX11_lift_111 : decode cX11_lift 111 = .ok (.ireturn, 1) := by decide +kernel
theorem dX11_lift_112 : decode cX11_lift 112 = .ok (.aload_n 0, 1) := by decide +kernel
theorem dX11_lift_113 : decode cX11_lift 113 = .ok (.getfield 73, 3) := by decide +kernel
theorem dX11_lift_116 : decode cX11_lift 116 = .ok (.aload_n 0, 1) := by decide +kernel
theorem dX11_lift_117 : decode cX11_lift 117 = .ok (.getfield 34, 3) := by decide +kernel
theorem dX11_lift_120 : decode cX11_lift 120 = .ok (.iload_n 1, 1) := by decide +kernel
theorem dX11_lift_121 : decode cX11_lift 121 = .ok (.invokevirtual 159, 3) := by decide +kernel
theorem dX11_lift_124 : decode cX11_lift 124 = .ok (.aload_n 0, 1) := by decide +kernel
theorem dX11_lift_125 : decode cX11_lift 125 = .ok (.getfield 73, 3) := by decide +kernel
theorem dX11_lift_128 : decode cX11_lift 128 = .ok (.invokevirtual 163, 3) := by decide +kernel
theorem dX11_lift_131 : decode cX11_lift 131 = .ok (.ireturn, 1) := by decide +kernel
theorem dX11_lift_132 : decode cX11_lift 132 = .ok (.bipush (-8), 2) := by decide +kernel
theorem dX11_lift_134 : decode cX11_lift 134 = .ok (.ireturn, 1) := by decide +kernel
theorem dX11_person_0 : decode cX11_person 0 = .ok (.aload_n 0, 1) := by decide +kernel
theorem dX11_person_1 : decode cX11_person 1 = .ok (.getfield 27, 3) := by decide +kernel
theorem dX11_person_4 : decode cX11_person 4 = .ok (.iload_n 1, 1) := by decide +kernel
theorem dX11_person_5 : decode cX11_person 5 = .ok (.invokevirtual 167, 3) := by decide +kernel
theorem dX11_person_8 : decode cX11_person 8 = .ok (.ifCond .ne 6, 3) := by decide +kernel
theorem dX11_person_11 : decode cX11_person 11 = .ok (.bipush (-8), 2) := by decide +kernel
theorem dX11_person_13 : decode cX11_person 13 = .ok (.ireturn, 1) := by decide +kernel
theorem dX11_person_14 : decode cX11_person 14 = .ok (.iload_n 2, 1) := by decide +kernel
theorem dX11_person_15 : decode cX11_person 15 = .ok (.tableswitch 111 0 6 #[41, 51, 61, 71, 81, 91, 101], 41) := by decide +kernel
theorem dX11_person_56 : decode cX11_person 56 = .ok (.aload_n 0, 1) := by decide +kernel
theorem dX11_person_57 : decode cX11_person 57 = .ok (.getfield 34, 3) := by decide +kernel
theorem dX11_person_60 : decode cX11_person 60 = .ok (.getfield 170, 3) := by decide +kernel
theorem dX11_person_63 : decode cX11_person 63 = .ok (.iload_n 1, 1) := by decide +kernel
theorem dX11_person_64 : decode cX11_person 64 = .ok (.iaload, 1) := by decide +kernel
theorem dX11_person_65 : decode cX11_person 65 = .ok (.ireturn, 1) := by decide +kernel
theorem dX11_person_66 : decode cX11_person 66 = .ok (.aload_n 0, 1) := by decide +kernel
theorem dX11_person_67 : decode cX11_person 67 = .ok (.getfield 34, 3) := by decide +kernel
theorem dX11_person_70 : decode cX11_person 70 = .ok (.getfield 173, 3) := by decide +kernel
theorem dX11_person_73 : decode cX11_person 73 = .ok (.iload_n 1, 1) := by decide +kernel
theorem dX11_person_74 : decode cX11_person 74 = .ok (.iaload, 1) := by decide +kernel
theorem dX11_person_75 : decode cX11_person 75 = .ok (.ireturn, 1) := by decide +kernel
theorem dX11_person_76 : decode cX11_person 76 = .ok (.aload_n 0, 1) := by decide +kernel
theorem dX11_person_77 : decode cX11_person 77 = .ok (.getfield 34, 3) := by decide +kernel
theorem dX11_person_80 : decode cX11_person 80 = .ok (.getfield 176, 3) := by decide +kernel
theorem dX11_person_83 : decode cX11_person 83 = .ok (.iload_n 1, 1) := by decide +kernel
theorem dX11_person_84 : decode cX11_person 84 = .ok (.iaload, 1) := by decide +kernel
theorem dX11_person_85 : decode cX11_person 85 = .ok (.ireturn, 1) := by decide +kernel
theorem dX11_person_86 : decode cX11_person 86 = .ok (.aload_n 0, 1) := by decide +kernel
theorem dX11_person_87 : decode cX11_person 87 = .ok (.getfield 27, 3) := by decide +kernel
theorem dX11_person_90 : decode cX11_person 90 = .ok (.getfield 179, 3) := by decide +kernel
theorem dX11_person_93 : decode cX11_person 93 = .ok (.iload_n 1, 1) := by decide +kernel
theorem dX11_person_94 : decode cX11_person 94 = .ok (.iaload, 1) := by decide +kernel
theorem dX11_person_95 : decode cX11_person 95 = .ok (.ireturn, 1) := by decide +kernel
theorem dX11_person_96 : decode cX11_person 96 = .ok (.aload_n 0, 1) := by decide +kernel
theorem dX11_person_97 : decode cX11_person 97 = .ok (.getfield 27, 3) := by decide +kernel
theorem dX11_person_100 : decode cX11_person 100 = .ok (.getfield 182, 3) := by decide +kernel
theorem dX11_person_103 : decode cX11_person 103 = .ok (.iload_n 1, 1) := by decide +kernel
theorem dX11_person_104 : decode cX11_person 104 = .ok (.iaload, 1) := by decide +kernel
theorem dX11_person_105 : decode cX11_person 105 = .ok (.ireturn, 1) := by decide +kernel
theorem dX11_person_106 : decode cX11_person 106 = .ok (.aload_n 0, 1) := by decide +kernel
theorem dX11_person_107 : decode cX11_person 107 = .ok (.getfield 27, 3) := by decide +kernel
theorem dX11_person_110 : decode cX11_person 110 = .ok (.getfield 185, 3) := by decide +kernel
theorem dX11_person_113 : decode cX11_person 113 = .ok (.iload_n 1, 1) := by decide +kernel
theorem dX11_person_114 : decode cX11_person 114 = .ok (.iaload, 1) := by decide +kernel
theorem dX11_person_115 : decode cX11_person 115 = .ok (.ireturn, 1) := by decide +kernel
theorem dX11_person_116 : decode cX11_person 116 = .ok (.aload_n 0, 1) := by decide +kernel
theorem dX11_person_117 : decode cX11_person 117 = .ok (.getfield 27, 3) := by decide +kernel
theorem dX11_person_120 : decode cX11_person 120 = .ok (.getfield 188, 3) := by decide +kernel
theorem dX11_person_123 : decode cX11_person 123 = .ok (.iload_n 1, 1) := by decide +kernel
theorem dX11_person_124 : decode cX11_person 124 = .ok (.iaload, 1) := by decide +kernel
theorem dX11_person_125 : decode cX11_person 125 = .ok (.ireturn, 1) := by decide +kernel
theorem dX11_person_126 : decode cX11_person 126 = .ok (.bipush (-8), 2) := by decide +kernel
theorem dX11_person_128 : decode cX11_person 128 = .ok (.ireturn, 1) := by decide +kernel
theorem dX11_foot_0 : decode cX11_foot 0 = .ok (.aload_n 0, 1) := by decide +kernel
theorem dX11_foot_1 : decode cX11_foot 1 = .ok (.getfield 27, 3) := by decide +kernel
theorem dX11_foot_4 : decode cX11_foot 4 = .ok (.iload_n 1, 1) := by decide +kernel
theorem dX11_foot_5 : decode cX11_foot 5 = .ok (.invokevirtual 167, 3) := by decide +kernel
theorem dX11_foot_8 : decode cX11_foot 8 = .ok (.ifCond .eq 25, 3) := by decide +kernel
theorem dX11_foot_11 : decode cX11_foot 11 = .ok (.aload_n 0, 1) := by decide +kernel
theorem dX11_foot_12 : decode cX11_foot 12 = .ok (.getfield 27, 3) := by decide +kernel
theorem dX11_foot_15 : decode cX11_foot 15 = .ok (.iload_n 2, 1) := by decide +kernel
theorem dX11_foot_16 : decode cX11_foot 16 = .ok (.invokevirtual 191, 3) := by decide +kernel
theorem dX11_foot_19 : decode cX11_foot 19 = .ok (.ifCond .eq 14, 3) := by decide +kernel
theorem dX11_foot_22 : decode cX11_foot 22 = .ok (.aload_n 0, 1) := by decide +kernel
theorem dX11_foot_23 : decode cX11_foot 23 = .ok (.getfield 27, 3) := by decide +kernel
theorem dX11_foot_26 : decode cX11_foot 26 = .ok (.iload_n 3, 1) := by decide +kernel
theorem dX11_foot_27 : decode cX11_foot 27 = .ok (.invokevirtual 191, 3) := by decide +kernel
theorem dX11_foot_30 : decode cX11_foot 30 = .ok (.ifCond .ne 6, 3) := by decide +kernel
theorem dX11_foot_33 : decode cX11_foot 33 = .ok (.bipush (-2), 2) := by decide +kernel
theorem dX11_foot_35 : decode cX11_foot 35 = .ok (.ireturn, 1) := by decide +kernel
theorem dX11_foot_36 : decode cX11_foot 36 = .ok (.aload_n 0, 1) := by decide +kernel
theorem dX11_foot_37 : decode cX11_foot 37 = .ok (.getfield 27, 3) := by decide +kernel
theorem dX11_foot_40 : decode cX11_foot 40 = .ok (.iload_n 1, 1) := by decide +kernel
theorem dX11_foot_41 : decode cX11_foot 41 = .ok (.iload_n 2, 1) := by decide +kernel
theorem dX11_foot_42 : decode cX11_foot 42 = .ok (.iload_n 3, 1) := by decide +kernel
theorem dX11_foot_43 : decode cX11_foot 43 = .ok (.invokevirtual 194, 3) := by decide +kernel
theorem dX11_foot_46 : decode cX11_foot 46 = .ok (.ireturn, 1) := by decide +kernel
theorem dX11_stop_0 : decode cX11_stop 0 = .ok (.aload_n 0, 1) := by decide +kernel
theorem dX11_stop_1 : decode cX11_stop 1 = .ok (.getfield 27, 3) := by decide +kernel
theorem dX11_stop_4 : decode cX11_stop 4 = .ok (.iload_n 1, 1) := by decide +kernel
theorem dX11_stop_5 : decode cX11_stop 5 = .ok (.invokevirtual 135, 3) := by decide +kernel
theorem dX11_stop_8 : decode cX11_stop 8 = .ok (.ifCond .eq 14, 3) := by decide +kernel
theorem dX11_stop_11 : decode cX11_stop 11 = .ok (.aload_n 0, 1) := by decide +kernel
theorem dX11_stop_12 : decode cX11_stop 12 = .ok (.getfield 27, 3) := by decide +kernel
theorem dX11_stop_15 : decode cX11_stop 15 = .ok (.iload_n 2, 1) := by decide +kernel
theorem dX11_stop_16 : decode cX11_stop 16 = .ok (.invokevirtual 191, 3) := by decide +kernel
theorem dX11_stop_19 : decode cX11_stop 19 = .ok (.ifCond .ne 6, 3) := by decide +kernel
theorem dX11_stop_22 : decode cX11_stop 22 = .ok (.bipush (-2), 2) := by decide +kernel
theorem dX11_stop_24 : decode cX11_stop 24 = .ok (.ireturn, 1) := by decide +kernel
theorem dX11_stop_25 : decode cX11_stop 25 = .ok (.iload_n 3, 1) := by decide +kernel
theorem dX11_stop_26 : decode cX11_stop 26 = .ok (.iconst 1, 1) := by decide +kernel
theorem dX11_stop_27 : decode cX11_stop 27 = .ok (.if_icmp .lt 9, 3) := by decide +kernel
theorem dX11_stop_30 : decode cX11_stop 30 = .ok (.iload_n 3, 1) := by decide +kernel
theorem dX11_stop_31 : decode cX11_stop 31 = .ok (.bipush 12, 2) := by decide +kernel
theorem dX11_stop_33 : decode cX11_stop 33 = .ok (.if_icmp .lt 6, 3) := by decide +kernel
theorem dX11_stop_36 : decode cX11_stop 36 = .ok (.bipush (-3), 2) := by decide +kernel
theorem dX11_stop_38 : decode cX11_stop 38 = .ok (.ireturn, 1) := by decide +kernel
theorem dX11_stop_39 : decode cX11_stop 39 = .ok (.aload_n 0, 1) := by decide +kernel
theorem dX11_stop_40 : decode cX11_stop 40 = .ok (.getfield 27, 3) := by decide +kernel
theorem dX11_stop_43 : decode cX11_stop 43 = .ok (.iload_n 1, 1) := by decide +kernel
theorem dX11_stop_44 : decode cX11_stop 44 = .ok (.iload_n 2, 1) := by decide +kernel
theorem dX11_stop_45 : decode cX11_stop 45 = .ok (.iload_n 3, 1) := by decide +kernel
theorem dX11_stop_46 : decode cX11_stop 46 = .ok (.invokevirtual 198, 3) := by decide +kernel
theorem dX11_stop_49 : decode cX11_stop 49 = .ok (.ireturn, 1) := by decide +kernel
theorem dX11_calls_0 : decode cX11_calls 0 = .ok (.aload_n 0, 1) := by decide +kernel
theorem dX11_calls_1 : decode cX11_calls 1 = .ok (.getfield 27, 3) := by decide +kernel
theorem dX11_calls_4 : decode cX11_calls 4 = .ok (.iload_n 1, 1) := by decide +kernel
theorem dX11_calls_5 : decode cX11_calls 5 = .ok (.invokevirtual 191, 3) := by decide +kernel
theorem dX11_calls_8 : decode cX11_calls 8 = .ok (.ifCond .eq 15, 3) := by decide +kernel
theorem dX11_calls_11 : decode cX11_calls 11 = .ok (.aload_n 0, 1) := by decide +kernel
theorem dX11_calls_12 : decode cX11_calls 12 = .ok (.getfield 27, 3) := by decide +kernel
theorem dX11_calls_15 : decode cX11_calls 15 = .ok (.getfield 201, 3) := by decide +kernel
theorem dX11_calls_18 : decode cX11_calls 18 = .ok (.iload_n 1, 1) := by decide +kernel
theorem dX11_calls_19 : decode cX11_calls 19 = .ok (.iaload, 1) := by decide +kernel
theorem dX11_calls_20 : decode cX11_calls 20 = .ok (.goto 5, 3) := by decide +kernel
theorem dX11_calls_23 : decode cX11_calls 23 = .ok (.bipush (-2), 2) := by decide +kernel
theorem dX11_calls_25 : decode cX11_calls 25 = .ok (.ireturn, 1) := by decide +kernel
theorem dX11_press_0 : decode cX11_press 0 = .ok (.aload_n 0, 1) := by decide +kernel
theorem dX11_press_1 : decode cX11_press 1 = .ok (.invokevirtual 204, 3) := by decide +kernel
theorem dX11_press_4 : decode cX11_press 4 = .ok (.aload_n 0, 1) := by decide +kernel
theorem dX11_press_5 : decode cX11_press 5 = .ok (.getfield 80, 3) := by decide +kernel
theorem dX11_press_8 : decode cX11_press 8 = .ok (.aload_n 0, 1) := by decide +kernel
theorem dX11_press_9 : decode cX11_press 9 = .ok (.getfield 34, 3) := by decide +kernel
theorem dX11_press_12 : decode cX11_press 12 = .ok (.iload_n 1, 1) := by decide +kernel
theorem dX11_press_13 : decode cX11_press 13 = .ok (.iload_n 2, 1) := by decide +kernel
theorem dX11_press_14 : decode cX11_press 14 = .ok (.invokevirtual 207, 3) := by decide +kernel
theorem dX11_press_17 : decode cX11_press 17 = .ok (.istore_n 3, 1) := by decide +kernel
theorem dX11_press_18 : decode cX11_press 18 = .ok (.iload_n 3, 1) := by decide +kernel
theorem dX11_press_19 : decode cX11_press 19 = .ok (.ifCond .eq 8, 3) := by decide +kernel
theorem dX11_press_22 : decode cX11_press 22 = .ok (.bipush (-10), 2) := by decide +kernel
theorem dX11_press_24 : decode cX11_press 24 = .ok (.iload_n 3, 1) := by decide +kernel
theorem dX11_press_25 : decode cX11_press 25 = .ok (.isub, 1) := by decide +kernel
theorem dX11_press_26 : decode cX11_press 26 = .ok (.ireturn, 1) := by decide +kernel
theorem dX11_press_27 : decode cX11_press 27 = .ok (.aload_n 0, 1) := by decide +kernel
theorem dX11_press_28 : decode cX11_press 28 = .ok (.invokevirtual 211, 3) := by decide +kernel
theorem dX11_press_31 : decode cX11_press 31 = .ok (.aload_n 0, 1) := by decide +kernel
theorem dX11_press_32 : decode cX11_press 32 = .ok (.getfield 34, 3) := by decide +kernel
theorem dX11_press_35 : decode cX11_press 35 = .ok (.getfield 146, 3) := by decide +kernel
theorem dX11_press_38 : decode cX11_press 38 = .ok (.iload_n 1, 1) := by decide +kernel
theorem dX11_press_39 : decode cX11_press 39 = .ok (.iaload, 1) := by decide +kernel
theorem dX11_press_40 : decode cX11_press 40 = .ok (.invokestatic 214, 3) := by decide +kernel
theorem dX11_press_43 : decode cX11_press 43 = .ok (.ireturn, 1) := by decide +kernel
theorem dX11_pressOff_0 : decode cX11_pressOff 0 = .ok (.aload_n 0, 1) := by decide +kernel
theorem dX11_pressOff_1 : decode cX11_pressOff 1 = .ok (.invokevirtual 204, 3) := by decide +kernel
theorem dX11_pressOff_4 : decode cX11_pressOff 4 = .ok (.aload_n 0, 1) := by decide +kernel
theorem dX11_pressOff_5 : decode cX11_pressOff 5 = .ok (.getfield 80, 3) := by decide +kernel
theorem dX11_pressOff_8 : decode cX11_pressOff 8 = .ok (.aload_n 0, 1) := by decide +kernel
theorem dX11_pressOff_9 : decode cX11_pressOff 9 = .ok (.getfield 34, 3) := by decide +kernel
theorem dX11_pressOff_12 : decode cX11_pressOff 12 = .ok (.iload_n 1, 1) := by decide +kernel
theorem dX11_pressOff_13 : decode cX11_pressOff 13 = .ok (.iload_n 2, 1) := by decide +kernel
theorem dX11_pressOff_14 : decode cX11_pressOff 14 = .ok (.invokevirtual 219, 3) := by decide +kernel
theorem dX11_pressOff_17 : decode cX11_pressOff 17 = .ok (.istore_n 3, 1) := by decide +kernel
theorem dX11_pressOff_18 : decode cX11_pressOff 18 = .ok (.iload_n 3, 1) := by decide +kernel
theorem dX11_pressOff_19 : decode cX11_pressOff 19 = .ok (.ifCond .eq 8, 3) := by decide +kernel
theorem dX11_pressOff_22 : decode cX11_pressOff 22 = .ok (.bipush (-10), 2) := by decide +kernel
theorem dX11_pressOff_24 : decode cX11_pressOff 24 = .ok (.iload_n 3, 1) := by decide +kernel
theorem dX11_pressOff_25 : decode cX11_pressOff 25 = .ok (.isub, 1) := by decide +kernel
theorem dX11_pressOff_26 : decode cX11_pressOff 26 = .ok (.ireturn, 1) := by decide +kernel
theorem dX11_pressOff_27 : decode cX11_pressOff 27 = .ok (.aload_n 0, 1) := by decide +kernel
theorem dX11_pressOff_28 : decode cX11_pressOff 28 = .ok (.invokevirtual 211, 3) := by decide +kernel
theorem dX11_pressOff_31 : decode cX11_pressOff 31 = .ok (.aload_n 0, 1) := by decide +kernel
theorem dX11_pressOff_32 : decode cX11_pressOff 32 = .ok (.getfield 34, 3) := by decide +kernel
theorem dX11_pressOff_35 : decode cX11_pressOff 35 = .ok (.getfield 146, 3) := by decide +kernel
theorem dX11_pressOff_38 : decode cX11_pressOff 38 = .ok (.iload_n 1, 1) := by decide +kernel
theorem dX11_pressOff_39 : decode cX11_pressOff 39 = .ok (.iaload, 1) := by decide +kernel
theorem dX11_pressOff_40 : decode cX11_pressOff 40 = .ok (.invokestatic 214, 3) := by decide +kernel
theorem dX11_pressOff_43 : decode cX11_pressOff 43 = .ok (.ireturn, 1) := by decide +kernel
theorem dX11_rides_0 : decode cX11_rides 0 = .ok (.aload_n 0, 1) := by decide +kernel
theorem dX11_rides_1 : decode cX11_rides 1 = .ok (.invokevirtual 204, 3) := by decide +kernel
theorem dX11_rides_4 : decode cX11_rides 4 = .ok (.aload_n 0, 1) := by decide +kernel
theorem dX11_rides_5 : decode cX11_rides 5 = .ok (.getfield 80, 3) := by decide +kernel
theorem dX11_rides_8 : decode cX11_rides 8 = .ok (.aload_n 0, 1) := by decide +kernel
theorem dX11_rides_9 : decode cX11_rides 9 = .ok (.getfield 34, 3) := by decide +kernel
theorem dX11_rides_12 : decode cX11_rides 12 = .ok (.iload_n 1, 1) := by decide +kernel
theorem dX11_rides_13 : decode cX11_rides 13 = .ok (.invokevirtual 222, 3) := by decide +kernel
theorem dX11_rides_16 : decode cX11_rides 16 = .ok (.istore_n 2, 1) := by decide +kernel
theorem dX11_rides_17 : decode cX11_rides 17 = .ok (.iload_n 2, 1) := by decide +kernel
theorem dX11_rides_18 : decode cX11_rides 18 = .ok (.ifCond .eq 8, 3) := by decide +kernel
theorem dX11_rides_21 : decode cX11_rides 21 = .ok (.bipush (-10), 2) := by decide +kernel
theorem dX11_rides_23 : decode cX11_rides 23 = .ok (.iload_n 2, 1) := by decide +kernel
theorem dX11_rides_24 : decode cX11_rides 24 = .ok (.isub, 1) := by decide +kernel
theorem dX11_rides_25 : decode cX11_rides 25 = .ok (.ireturn, 1) := by decide +kernel
theorem dX11_rides_26 : decode cX11_rides 26 = .ok (.aload_n 0, 1) := by decide +kernel
theorem dX11_rides_27 : decode cX11_rides 27 = .ok (.invokevirtual 211, 3) := by decide +kernel
theorem dX11_rides_30 : decode cX11_rides 30 = .ok (.aload_n 0, 1) := by decide +kernel
theorem dX11_rides_31 : decode cX11_rides 31 = .ok (.getfield 34, 3) := by decide +kernel
theorem dX11_rides_34 : decode cX11_rides 34 = .ok (.getfield 139, 3) := by decide +kernel
theorem dX11_rides_37 : decode cX11_rides 37 = .ok (.iload_n 1, 1) := by decide +kernel
theorem dX11_rides_38 : decode cX11_rides 38 = .ok (.iaload, 1) := by decide +kernel
theorem dX11_rides_39 : decode cX11_rides 39 = .ok (.ireturn, 1) := by decide +kernel
theorem dX11_out_0 : decode cX11_out 0 = .ok (.aload_n 0, 1) := by decide +kernel
theorem dX11_out_1 : decode cX11_out 1 = .ok (.invokevirtual 204, 3) := by decide +kernel
theorem dX11_out_4 : decode cX11_out 4 = .ok (.aload_n 0, 1) := by decide +kernel
theorem dX11_out_5 : decode cX11_out 5 = .ok (.getfield 80, 3) := by decide +kernel
theorem dX11_out_8 : decode cX11_out 8 = .ok (.aload_n 0, 1) := by decide +kernel
theorem dX11_out_9 : decode cX11_out 9 = .ok (.getfield 34, 3) := by decide +kernel
theorem dX11_out_12 : decode cX11_out 12 = .ok (.iload_n 1, 1) := by decide +kernel
theorem dX11_out_13 : decode cX11_out 13 = .ok (.invokevirtual 226, 3) := by decide +kernel
theorem dX11_out_16 : decode cX11_out 16 = .ok (.istore_n 2, 1) := by decide +kernel
theorem dX11_out_17 : decode cX11_out 17 = .ok (.iload_n 2, 1) := by decide +kernel
theorem dX11_out_18 : decode cX11_out 18 = .ok (.ifCond .eq 8, 3) := by decide +kernel
theorem dX11_out_21 : decode cX11_out 21 = .ok (.bipush (-10), 2) := by decide +kernel
theorem dX11_out_23 : decode cX11_out 23 = .ok (.iload_n 2, 1) := by decide +kernel
theorem dX11_out_24 : decode cX11_out 24 = .ok (.isub, 1) := by decide +kernel
theorem dX11_out_25 : decode cX11_out 25 = .ok (.ireturn, 1) := by decide +kernel
theorem dX11_out_26 : decode cX11_out 26 = .ok (.aload_n 0, 1) := by decide +kernel
theorem dX11_out_27 : decode cX11_out 27 = .ok (.invokevirtual 211, 3) := by decide +kernel
theorem dX11_out_30 : decode cX11_out 30 = .ok (.aload_n 0, 1) := by decide +kernel
theorem dX11_out_31 : decode cX11_out 31 = .ok (.getfield 34, 3) := by decide +kernel
theorem dX11_out_34 : decode cX11_out 34 = .ok (.getfield 170, 3) := by decide +kernel
theorem dX11_out_37 : decode cX11_out 37 = .ok (.iload_n 1, 1) := by decide +kernel
theorem dX11_out_38 : decode cX11_out 38 = .ok (.iaload, 1) := by decide +kernel
theorem dX11_out_39 : decode cX11_out 39 = .ok (.ireturn, 1) := by decide +kernel
theorem dX11_in_0 : decode cX11_in 0 = .ok (.aload_n 0, 1) := by decide +kernel
theorem dX11_in_1 : decode cX11_in 1 = .ok (.invokevirtual 204, 3) := by decide +kernel
theorem dX11_in_4 : decode cX11_in 4 = .ok (.aload_n 0, 1) := by decide +kernel
theorem dX11_in_5 : decode cX11_in 5 = .ok (.getfield 80, 3) := by decide +kernel
theorem dX11_in_8 : decode cX11_in 8 = .ok (.aload_n 0, 1) := by decide +kernel
theorem dX11_in_9 : decode cX11_in 9 = .ok (.getfield 34, 3) := by decide +kernel
theorem dX11_in_12 : decode cX11_in 12 = .ok (.iload_n 1, 1) := by decide +kernel
theorem dX11_in_13 : decode cX11_in 13 = .ok (.iload_n 2, 1) := by decide +kernel
theorem dX11_in_14 : decode cX11_in 14 = .ok (.invokevirtual 229, 3) := by decide +kernel
theorem dX11_in_17 : decode cX11_in 17 = .ok (.istore_n 3, 1) := by decide +kernel
theorem dX11_in_18 : decode cX11_in 18 = .ok (.iload_n 3, 1) := by decide +kernel
theorem dX11_in_19 : decode cX11_in 19 = .ok (.ifCond .eq 8, 3) := by decide +kernel
theorem dX11_in_22 : decode cX11_in 22 = .ok (.bipush (-10), 2) := by decide +kernel
theorem dX11_in_24 : decode cX11_in 24 = .ok (.iload_n 3, 1) := by decide +kernel
theorem dX11_in_25 : decode cX11_in 25 = .ok (.isub, 1) := by decide +kernel
theorem dX11_in_26 : decode cX11_in 26 = .ok (.ireturn, 1) := by decide +kernel
theorem dX11_in_27 : decode cX11_in 27 = .ok (.aload_n 0, 1) := by decide +kernel
theorem dX11_in_28 : decode cX11_in 28 = .ok (.invokevirtual 211, 3) := by decide +kernel
theorem dX11_in_31 : decode cX11_in 31 = .ok (.aload_n 0, 1) := by decide +kernel
theorem dX11_in_32 : decode cX11_in 32 = .ok (.getfield 34, 3) := by decide +kernel
theorem dX11_in_35 : decode cX11_in 35 = .ok (.getfield 143, 3) := by decide +kernel
theorem dX11_in_38 : decode cX11_in 38 = .ok (.iload_n 2, 1) := by decide +kernel
theorem dX11_in_39 : decode cX11_in 39 = .ok (.iaload, 1) := by decide +kernel
theorem dX11_in_40 : decode cX11_in 40 = .ok (.ireturn, 1) := by decide +kernel
theorem dX11_walks_0 : decode cX11_walks 0 = .ok (.aload_n 0, 1) := by decide +kernel
theorem dX11_walks_1 : decode cX11_walks 1 = .ok (.invokevirtual 204, 3) := by decide +kernel
theorem dX11_walks_4 : decode cX11_walks 4 = .ok (.aload_n 0, 1) := by decide +kernel
theorem dX11_walks_5 : decode cX11_walks 5 = .ok (.getfield 80, 3) := by decide +kernel
theorem dX11_walks_8 : decode cX11_walks 8 = .ok (.aload_n 0, 1) := by decide +kernel
theorem dX11_walks_9 : decode cX11_walks 9 = .ok (.getfield 34, 3) := by decide +kernel
theorem dX11_walks_12 : decode cX11_walks 12 = .ok (.iload_n 1, 1) := by decide +kernel
theorem dX11_walks_13 : decode cX11_walks 13 = .ok (.iload_n 2, 1) := by decide +kernel
theorem dX11_walks_14 : decode cX11_walks 14 = .ok (.invokevirtual 232, 3) := by decide +kernel
theorem dX11_walks_17 : decode cX11_walks 17 = .ok (.istore_n 3, 1) := by decide +kernel
theorem dX11_walks_18 : decode cX11_walks 18 = .ok (.iload_n 3, 1) := by decide +kernel
theorem dX11_walks_19 : decode cX11_walks 19 = .ok (.ifCond .eq 8, 3) := by decide +kernel
theorem dX11_walks_22 : decode cX11_walks 22 = .ok (.bipush (-10), 2) := by decide +kernel
theorem dX11_walks_24 : decode cX11_walks 24 = .ok (.iload_n 3, 1) := by decide +kernel
theorem dX11_walks_25 : decode cX11_walks 25 = .ok (.isub, 1) := by decide +kernel
theorem dX11_walks_26 : decode cX11_walks 26 = .ok (.ireturn, 1) := by decide +kernel
theorem dX11_walks_27 : decode cX11_walks 27 = .ok (.aload_n 0, 1) := by decide +kernel
theorem dX11_walks_28 : decode cX11_walks 28 = .ok (.invokevirtual 211, 3) := by decide +kernel
theorem dX11_walks_31 : decode cX11_walks 31 = .ok (.aload_n 0, 1) := by decide +kernel
theorem dX11_walks_32 : decode cX11_walks 32 = .ok (.getfield 34, 3) := by decide +kernel
theorem dX11_walks_35 : decode cX11_walks 35 = .ok (.getfield 173, 3) := by decide +kernel
theorem dX11_walks_38 : decode cX11_walks 38 = .ok (.iload_n 1, 1) := by decide +kernel
theorem dX11_walks_39 : decode cX11_walks 39 = .ok (.iaload, 1) := by decide +kernel
theorem dX11_walks_40 : decode cX11_walks 40 = .ok (.ireturn, 1) := by decide +kernel
theorem dX11_undo_0 : decode cX11_undo 0 = .ok (.iload_n 1, 1) := by decide +kernel
theorem dX11_undo_1 : decode cX11_undo 1 = .ok (.iconst 1, 1) := by decide +kernel
theorem dX11_undo_2 : decode cX11_undo 2 = .ok (.if_icmp .lt 11, 3) := by decide +kernel
theorem dX11_undo_5 : decode cX11_undo 5 = .ok (.iload_n 1, 1) := by decide +kernel
theorem dX11_undo_6 : decode cX11_undo 6 = .ok (.aload_n 0, 1) := by decide +kernel
theorem dX11_undo_7 : decode cX11_undo 7 = .ok (.getfield 48, 3) := by decide +kernel
theorem dX11_undo_10 : decode cX11_undo 10 = .ok (.if_icmp .le 6, 3) := by decide +kernel
theorem dX11_undo_13 : decode cX11_undo 13 = .ok (.bipush (-3), 2) := by decide +kernel
theorem dX11_undo_15 : decode cX11_undo 15 = .ok (.ireturn, 1) := by decide +kernel
theorem dX11_undo_16 : decode cX11_undo 16 = .ok (.aload_n 0, 1) := by decide +kernel
theorem dX11_undo_17 : decode cX11_undo 17 = .ok (.aload_n 0, 1) := by decide +kernel
theorem dX11_undo_18 : decode cX11_undo 18 = .ok (.getfield 45, 3) := by decide +kernel
theorem dX11_undo_21 : decode cX11_undo 21 = .ok (.iload_n 1, 1) := by decide +kernel
theorem dX11_undo_22 : decode cX11_undo 22 = .ok (.isub, 1) := by decide +kernel
theorem dX11_undo_23 : decode cX11_undo 23 = .ok (.aload_n 0, 1) := by decide +kernel
theorem dX11_undo_24 : decode cX11_undo 24 = .ok (.getfield 41, 3) := by decide +kernel
theorem dX11_undo_27 : decode cX11_undo 27 = .ok (.arraylength, 1) := by decide +kernel
theorem dX11_undo_28 : decode cX11_undo 28 = .ok (.invokestatic 235, 3) := by decide +kernel
theorem dX11_undo_31 : decode cX11_undo 31 = .ok (.putfield 45, 3) := by decide +kernel
theorem dX11_undo_34 : decode cX11_undo 34 = .ok (.aload_n 0, 1) := by decide +kernel
theorem dX11_undo_35 : decode cX11_undo 35 = .ok (.getfield 34, 3) := by decide +kernel
theorem dX11_undo_38 : decode cX11_undo 38 = .ok (.aload_n 0, 1) := by decide +kernel
theorem dX11_undo_39 : decode cX11_undo 39 = .ok (.getfield 41, 3) := by decide +kernel
theorem dX11_undo_42 : decode cX11_undo 42 = .ok (.aload_n 0, 1) := by decide +kernel
theorem dX11_undo_43 : decode cX11_undo 43 = .ok (.getfield 45, 3) := by decide +kernel
theorem dX11_undo_46 : decode cX11_undo 46 = .ok (.aaload, 1) := by decide +kernel
theorem dX11_undo_47 : decode cX11_undo 47 = .ok (.invokevirtual 126, 3) := by decide +kernel
theorem dX11_undo_50 : decode cX11_undo 50 = .ok (.aload_n 0, 1) := by decide +kernel
theorem dX11_undo_51 : decode cX11_undo 51 = .ok (.dup, 1) := by decide +kernel
theorem dX11_undo_52 : decode cX11_undo 52 = .ok (.getfield 48, 3) := by decide +kernel
theorem dX11_undo_55 : decode cX11_undo 55 = .ok (.iload_n 1, 1) := by decide +kernel
theorem dX11_undo_56 : decode cX11_undo 56 = .ok (.isub, 1) := by decide +kernel
theorem dX11_undo_57 : decode cX11_undo 57 = .ok (.putfield 48, 3) := by decide +kernel
theorem dX11_undo_60 : decode cX11_undo 60 = .ok (.aload_n 0, 1) := by decide +kernel
theorem dX11_undo_61 : decode cX11_undo 61 = .ok (.getfield 48, 3) := by decide +kernel
theorem dX11_undo_64 : decode cX11_undo 64 = .ok (.ireturn, 1) := by decide +kernel
theorem dX11_judge_0 : decode cX11_judge 0 = .ok (.aload_n 0, 1) := by decide +kernel
theorem dX11_judge_1 : decode cX11_judge 1 = .ok (.iload_n 1, 1) := by decide +kernel
theorem dX11_judge_2 : decode cX11_judge 2 = .ok (.invokevirtual 241, 3) := by decide +kernel
theorem dX11_judge_5 : decode cX11_judge 5 = .ok (.ifCond .eq 12, 3) := by decide +kernel
theorem dX11_judge_8 : decode cX11_judge 8 = .ok (.iload_n 2, 1) := by decide +kernel
theorem dX11_judge_9 : decode cX11_judge 9 = .ok (.ifCond .lt 8, 3) := by decide +kernel
theorem dX11_judge_12 : decode cX11_judge 12 = .ok (.iload_n 2, 1) := by decide +kernel
theorem dX11_judge_13 : decode cX11_judge 13 = .ok (.iconst 3, 1) := by decide +kernel
theorem dX11_judge_14 : decode cX11_judge 14 = .ok (.if_icmp .le 6, 3) := by decide +kernel
theorem dX11_judge_17 : decode cX11_judge 17 = .ok (.bipush (-2), 2) := by decide +kernel
theorem dX11_judge_19 : decode cX11_judge 19 = .ok (.ireturn, 1) := by decide +kernel
theorem dX11_judge_20 : decode cX11_judge 20 = .ok (.aload_n 0, 1) := by decide +kernel
theorem dX11_judge_21 : decode cX11_judge 21 = .ok (.getfield 53, 3) := by decide +kernel
theorem dX11_judge_24 : decode cX11_judge 24 = .ok (.iload_n 1, 1) := by decide +kernel
theorem dX11_judge_25 : decode cX11_judge 25 = .ok (.aaload, 1) := by decide +kernel
theorem dX11_judge_26 : decode cX11_judge 26 = .ok (.invokevirtual 244, 3) := by decide +kernel
theorem dX11_judge_29 : decode cX11_judge 29 = .ok (.ifCond .eq 6, 3) := by decide +kernel
theorem dX11_judge_32 : decode cX11_judge 32 = .ok (.bipush (-6), 2) := by decide +kernel
theorem dX11_judge_34 : decode cX11_judge 34 = .ok (.ireturn, 1) := by decide +kernel
theorem dX11_judge_35 : decode cX11_judge 35 = .ok (.aload_n 0, 1) := by decide +kernel
theorem dX11_judge_36 : decode cX11_judge 36 = .ok (.getfield 38, 3) := by decide +kernel
theorem dX11_judge_39 : decode cX11_judge 39 = .ok (.aload_n 0, 1) := by decide +kernel
theorem dX11_judge_40 : decode cX11_judge 40 = .ok (.getfield 34, 3) := by decide +kernel
theorem dX11_judge_43 : decode cX11_judge 43 = .ok (.invokevirtual 126, 3) := by decide +kernel
theorem dX11_judge_46 : decode cX11_judge 46 = .ok (.aload_n 0, 1) := by decide +kernel
theorem dX11_judge_47 : decode cX11_judge 47 = .ok (.getfield 80, 3) := by decide +kernel
theorem dX11_judge_50 : decode cX11_judge 50 = .ok (.aload_n 0, 1) := by decide +kernel
theorem dX11_judge_51 : decode cX11_judge 51 = .ok (.getfield 38, 3) := by decide +kernel
theorem dX11_judge_54 : decode cX11_judge 54 = .ok (.aload_n 0, 1) := by decide +kernel
theorem dX11_judge_55 : decode cX11_judge 55 = .ok (.getfield 53, 3) := by decide +kernel
theorem dX11_judge_58 : decode cX11_judge 58 = .ok (.iload_n 1, 1) := by decide +kernel
theorem dX11_judge_59 : decode cX11_judge 59 = .ok (.aaload, 1) := by decide +kernel
theorem dX11_judge_60 : decode cX11_judge 60 = .ok (.invokevirtual 248, 3) := by decide +kernel
theorem dX11_judge_63 : decode cX11_judge 63 = .ok (.istore_n 3, 1) := by decide +kernel
theorem dX11_judge_64 : decode cX11_judge 64 = .ok (.iload_n 2, 1) := by decide +kernel
theorem dX11_judge_65 : decode cX11_judge 65 = .ok (.tableswitch 60 0 2 #[27, 43, 51], 27) := by decide +kernel
theorem dX11_judge_92 : decode cX11_judge 92 = .ok (.aload_n 0, 1) := by decide +kernel
theorem dX11_judge_93 : decode cX11_judge 93 = .ok (.getfield 80, 3) := by decide +kernel
theorem dX11_judge_96 : decode cX11_judge 96 = .ok (.getfield 252, 3) := by decide +kernel
theorem dX11_judge_99 : decode cX11_judge 99 = .ok (.ifCond .ne 7, 3) := by decide +kernel
theorem dX11_judge_102 : decode cX11_judge 102 = .ok (.iconst (-1), 1) := by decide +kernel
theorem dX11_judge_103 : decode cX11_judge 103 = .ok (.goto 4, 3) := by decide +kernel
theorem dX11_judge_106 : decode cX11_judge 106 = .ok (.iload_n 3, 1) := by decide +kernel
theorem dX11_judge_107 : decode cX11_judge 107 = .ok (.ireturn, 1) := by decide +kernel
theorem dX11_judge_108 : decode cX11_judge 108 = .ok (.aload_n 0, 1) := by decide +kernel
theorem dX11_judge_109 : decode cX11_judge 109 = .ok (.getfield 80, 3) := by decide +kernel
theorem dX11_judge_112 : decode cX11_judge 112 = .ok (.getfield 252, 3) := by decide +kernel
theorem dX11_judge_115 : decode cX11_judge 115 = .ok (.ireturn, 1) := by decide +kernel
theorem dX11_judge_116 : decode cX11_judge 116 = .ok (.aload_n 0, 1) := by decide +kernel
theorem dX11_judge_117 : decode cX11_judge 117 = .ok (.aload_n 0, 1) := by decide +kernel
theorem dX11_judge_118 : decode cX11_judge 118 = .ok (.getfield 38, 3) := by decide +kernel
theorem dX11_judge_121 : decode cX11_judge 121 = .ok (.invokevirtual 255, 3) := by decide +kernel
theorem dX11_judge_124 : decode cX11_judge 124 = .ok (.ireturn, 1) := by decide +kernel
theorem dX11_judge_125 : decode cX11_judge 125 = .ok (.aload_n 0, 1) := by decide +kernel
theorem dX11_judge_126 : decode cX11_judge 126 = .ok (.aload_n 0, 1) := by decide +kernel
theorem dX11_judge_127 : decode cX11_judge 127 = .ok (.getfield 38, 3) := by decide +kernel
theorem dX11_judge_130 : decode cX11_judge 130 = .ok (.invokevirtual 259, 3) := by decide +kernel
theorem dX11_judge_133 : decode cX11_judge 133 = .ok (.ireturn, 1) := by decide +kernel
theorem dX11_perform_0 : decode cX11_perform 0 = .ok (.aload_n 0, 1) := by decide +kernel
theorem dX11_perform_1 : decode cX11_perform 1 = .ok (.iload_n 1, 1) := by decide +kernel
theorem dX11_perform_2 : decode cX11_perform 2 = .ok (.invokevirtual 241, 3) := by decide +kernel
theorem dX11_perform_5 : decode cX11_perform 5 = .ok (.ifCond .ne 6, 3) := by decide +kernel
theorem dX11_perform_8 : decode cX11_perform 8 = .ok (.bipush (-2), 2) := by decide +kernel
theorem dX11_perform_10 : decode cX11_perform 10 = .ok (.ireturn, 1) := by decide +kernel
theorem dX11_perform_11 : decode cX11_perform 11 = .ok (.aload_n 0, 1) := by decide +kernel
theorem dX11_perform_12 : decode cX11_perform 12 = .ok (.getfield 53, 3) := by decide +kernel
theorem dX11_perform_15 : decode cX11_perform 15 = .ok (.iload_n 1, 1) := by decide +kernel
theorem dX11_perform_16 : decode cX11_perform 16 = .ok (.aaload, 1) := by decide +kernel
theorem dX11_perform_17 : decode cX11_perform 17 = .ok (.invokevirtual 244, 3) := by decide +kernel
theorem dX11_perform_20 : decode cX11_perform 20 = .ok (.ifCond .eq 6, 3) := by decide +kernel
theorem dX11_perform_23 : decode cX11_perform 23 = .ok (.bipush (-6), 2) := by decide +kernel
theorem dX11_perform_25 : decode cX11_perform 25 = .ok (.ireturn, 1) := by decide +kernel
theorem dX11_perform_26 : decode cX11_perform 26 = .ok (.aload_n 0, 1) := by decide +kernel
theorem dX11_perform_27 : decode cX11_perform 27 = .ok (.invokevirtual 204, 3) := by decide +kernel
theorem dX11_perform_30 : decode cX11_perform 30 = .ok (.aload_n 0, 1) := by decide +kernel
theorem dX11_perform_31 : decode cX11_perform 31 = .ok (.getfield 80, 3) := by decide +kernel
theorem dX11_perform_34 : decode cX11_perform 34 = .ok (.aload_n 0, 1) := by decide +kernel
theorem dX11_perform_35 : decode cX11_perform 35 = .ok (.getfield 34, 3) := by decide +kernel
theorem dX11_perform_38 : decode cX11_perform 38 = .ok (.aload_n 0, 1) := by decide +kernel
theorem dX11_perform_39 : decode cX11_perform 39 = .ok (.getfield 53, 3) := by decide +kernel
theorem dX11_perform_42 : decode cX11_perform 42 = .ok (.iload_n 1, 1) := by decide +kernel
theorem dX11_perform_43 : decode cX11_perform 43 = .ok (.aaload, 1) := by decide +kernel
theorem dX11_perform_44 : decode cX11_perform 44 = .ok (.invokevirtual 248, 3) := by decide +kernel
theorem dX11_perform_47 : decode cX11_perform 47 = .ok (.istore_n 2, 1) := by decide +kernel
theorem dX11_perform_48 : decode cX11_perform 48 = .ok (.iload_n 2, 1) := by decide +kernel
theorem dX11_perform_49 : decode cX11_perform 49 = .ok (.ifCond .le 7, 3) := by decide +kernel
theorem dX11_perform_52 : decode cX11_perform 52 = .ok (.aload_n 0, 1) := by decide +kernel
theorem dX11_perform_53 : decode cX11_perform 53 = .ok (.invokevirtual 211, 3) := by decide +kernel
theorem dX11_perform_56 : decode cX11_perform 56 = .ok (.iload_n 2, 1) := by decide +kernel
theorem dX11_perform_57 : decode cX11_perform 57 = .ok (.ireturn, 1) := by decide +kernel
theorem dX11_evenings_0 : decode cX11_evenings 0 = .ok (.iload_n 2, 1) := by decide +kernel
theorem dX11_evenings_1 : decode cX11_evenings 1 = .ok (.iconst 1, 1) := by decide +kernel
theorem dX11_evenings_2 : decode cX11_evenings 2 = .ok (.if_icmp .lt 9, 3) := by decide +kernel
theorem dX11_evenings_5 : decode cX11_evenings 5 = .ok (.iload_n 2, 1) := by decide +kernel
theorem dX11_evenings_6 : decode cX11_evenings 6 = .ok (.bipush 40, 2) := by decide +kernel
theorem dX11_evenings_8 : decode cX11_evenings 8 = .ok (.if_icmp .le 6, 3) := by decide +kernel
theorem dX11_evenings_11 : decode cX11_evenings 11 = .ok (.bipush (-3), 2) := by decide +kernel
theorem dX11_evenings_13 : decode cX11_evenings 13 = .ok (.ireturn, 1) := by decide +kernel
theorem dX11_evenings_14 : decode cX11_evenings 14 = .ok (.aload_n 0, 1) := by decide +kernel
theorem dX11_evenings_15 : decode cX11_evenings 15 = .ok (.getfield 27, 3) := by decide +kernel
theorem dX11_evenings_18 : decode cX11_evenings 18 = .ok (.getfield 262, 3) := by decide +kernel
theorem dX11_evenings_21 : decode cX11_evenings 21 = .ok (.ifCond .eq 13, 3) := by decide +kernel
theorem dX11_evenings_24 : decode cX11_evenings 24 = .ok (.aload_n 0, 1) := by decide +kernel
theorem dX11_evenings_25 : decode cX11_evenings 25 = .ok (.getfield 27, 3) := by decide +kernel
theorem dX11_evenings_28 : decode cX11_evenings 28 = .ok (.getfield 265, 3) := by decide +kernel
theorem dX11_evenings_31 : decode cX11_evenings 31 = .ok (.ifCond .ne 6, 3) := by decide +kernel
theorem dX11_evenings_34 : decode cX11_evenings 34 = .ok (.bipush (-5), 2) := by decide +kernel
theorem dX11_evenings_36 : decode cX11_evenings 36 = .ok (.ireturn, 1) := by decide +kernel
theorem dX11_evenings_37 : decode cX11_evenings 37 = .ok (.aload_n 0, 1) := by decide +kernel
theorem dX11_evenings_38 : decode cX11_evenings 38 = .ok (.invokevirtual 204, 3) := by decide +kernel
theorem dX11_evenings_41 : decode cX11_evenings 41 = .ok (.aload_n 0, 1) := by decide +kernel
theorem dX11_evenings_42 : decode cX11_evenings 42 = .ok (.getfield 80, 3) := by decide +kernel
theorem dX11_evenings_45 : decode cX11_evenings 45 = .ok (.aload_n 0, 1) := by decide +kernel
theorem dX11_evenings_46 : decode cX11_evenings 46 = .ok (.getfield 34, 3) := by decide +kernel
theorem dX11_evenings_49 : decode cX11_evenings 49 = .ok (.iload_n 1, 1) := by decide +kernel
theorem dX11_evenings_50 : decode cX11_evenings 50 = .ok (.iload_n 2, 1) := by decide +kernel
theorem dX11_evenings_51 : decode cX11_evenings 51 = .ok (.invokevirtual 268, 3) := by decide +kernel
theorem dX11_evenings_54 : decode cX11_evenings 54 = .ok (.istore_n 3, 1) := by decide +kernel
theorem dX11_evenings_55 : decode cX11_evenings 55 = .ok (.iload_n 3, 1) := by decide +kernel
theorem dX11_evenings_56 : decode cX11_evenings 56 = .ok (.ifCond .le 7, 3) := by decide +kernel
theorem dX11_evenings_59 : decode cX11_evenings 59 = .ok (.aload_n 0, 1) := by decide +kernel
theorem dX11_evenings_60 : decode cX11_evenings 60 = .ok (.invokevirtual 211, 3) := by decide +kernel
theorem dX11_evenings_63 : decode cX11_evenings 63 = .ok (.iload_n 3, 1) := by decide +kernel
theorem dX11_evenings_64 : decode cX11_evenings 64 = .ok (.ireturn, 1) := by decide +kernel
theorem dX11_stops_0 : decode cX11_stops 0 = .ok (.aload_n 0, 1) := by decide +kernel
theorem dX11_stops_1 : decode cX11_stops 1 = .ok (.getfield 27, 3) := by decide +kernel
theorem dX11_stops_4 : decode cX11_stops 4 = .ok (.iload_n 1, 1) := by decide +kernel
theorem dX11_stops_5 : decode cX11_stops 5 = .ok (.invokevirtual 135, 3) := by decide +kernel
theorem dX11_stops_8 : decode cX11_stops 8 = .ok (.ifCond .ne 6, 3) := by decide +kernel
theorem dX11_stops_11 : decode cX11_stops 11 = .ok (.bipush (-2), 2) := by decide +kernel
theorem dX11_stops_13 : decode cX11_stops 13 = .ok (.ireturn, 1) := by decide +kernel
theorem dX11_stops_14 : decode cX11_stops 14 = .ok (.aload_n 0, 1) := by decide +kernel
theorem dX11_stops_15 : decode cX11_stops 15 = .ok (.getfield 34, 3) := by decide +kernel
theorem dX11_stops_18 : decode cX11_stops 18 = .ok (.getfield 146, 3) := by decide +kernel
theorem dX11_stops_21 : decode cX11_stops 21 = .ok (.iload_n 1, 1) := by decide +kernel
theorem dX11_stops_22 : decode cX11_stops 22 = .ok (.iaload, 1) := by decide +kernel
theorem dX11_stops_23 : decode cX11_stops 23 = .ok (.invokestatic 214, 3) := by decide +kernel
theorem dX11_stops_26 : decode cX11_stops 26 = .ok (.ireturn, 1) := by decide +kernel
theorem dX11_stopAt_0 : decode cX11_stopAt 0 = .ok (.aload_n 0, 1) := by decide +kernel
theorem dX11_stopAt_1 : decode cX11_stopAt 1 = .ok (.getfield 27, 3) := by decide +kernel
theorem dX11_stopAt_4 : decode cX11_stopAt 4 = .ok (.iload_n 1, 1) := by decide +kernel
theorem dX11_stopAt_5 : decode cX11_stopAt 5 = .ok (.invokevirtual 135, 3) := by decide +kernel
theorem dX11_stopAt_8 : decode cX11_stopAt 8 = .ok (.ifCond .ne 6, 3) := by decide +kernel
theorem dX11_stopAt_11 : decode cX11_stopAt 11 = .ok (.bipush (-2), 2) := by decide +kernel
theorem dX11_stopAt_13 : decode cX11_stopAt 13 = .ok (.ireturn, 1) := by decide +kernel
theorem dX11_stopAt_14 : decode cX11_stopAt 14 = .ok (.iload_n 2, 1) := by decide +kernel
theorem dX11_stopAt_15 : decode cX11_stopAt 15 = .ok (.ifCond .ge 6, 3) := by decide +kernel
theorem dX11_stopAt_18 : decode cX11_stopAt 18 = .ok (.bipush (-3), 2) := by decide +kernel
theorem dX11_stopAt_20 : decode cX11_stopAt 20 = .ok (.ireturn, 1) := by decide +kernel
theorem dX11_stopAt_21 : decode cX11_stopAt 21 = .ok (.aload_n 0, 1) := by decide +kernel
theorem dX11_stopAt_22 : decode cX11_stopAt 22 = .ok (.getfield 73, 3) := by decide +kernel
theorem dX11_stopAt_25 : decode cX11_stopAt 25 = .ok (.aload_n 0, 1) := by decide +kernel
theorem dX11_stopAt_26 : decode cX11_stopAt 26 = .ok (.getfield 34, 3) := by decide +kernel
theorem dX11_stopAt_29 : decode cX11_stopAt 29 = .ok (.iload_n 1, 1) := by decide +kernel
theorem dX11_stopAt_30 : decode cX11_stopAt 30 = .ok (.invokevirtual 159, 3) := by decide +kernel
theorem dX11_stopAt_33 : decode cX11_stopAt 33 = .ok (.iconst 0, 1) := by decide +kernel
theorem dX11_stopAt_34 : decode cX11_stopAt 34 = .ok (.istore_n 3, 1) := by decide +kernel
theorem dX11_stopAt_35 : decode cX11_stopAt 35 = .ok (.iload_n 3, 1) := by decide +kernel
theorem dX11_stopAt_36 : decode cX11_stopAt 36 = .ok (.bipush 12, 2) := by decide +kernel
theorem dX11_stopAt_38 : decode cX11_stopAt 38 = .ok (.if_icmp .ge 32, 3) := by decide +kernel
theorem dX11_stopAt_41 : decode cX11_stopAt 41 = .ok (.aload_n 0, 1) := by decide +kernel
theorem dX11_stopAt_42 : decode cX11_stopAt 42 = .ok (.getfield 73, 3) := by decide +kernel
theorem dX11_stopAt_45 : decode cX11_stopAt 45 = .ok (.invokevirtual 271, 3) := by decide +kernel
theorem dX11_stopAt_48 : decode cX11_stopAt 48 = .ok (.ifCond .eq 22, 3) := by decide +kernel
theorem dX11_stopAt_51 : decode cX11_stopAt 51 = .ok (.iload_n 3, 1) := by decide +kernel
theorem dX11_stopAt_52 : decode cX11_stopAt 52 = .ok (.iload_n 2, 1) := by decide +kernel
theorem dX11_stopAt_53 : decode cX11_stopAt 53 = .ok (.if_icmp .ne 11, 3) := by decide +kernel
theorem dX11_stopAt_56 : decode cX11_stopAt 56 = .ok (.aload_n 0, 1) := by decide +kernel
theorem dX11_stopAt_57 : decode cX11_stopAt 57 = .ok (.getfield 73, 3) := by decide +kernel
theorem dX11_stopAt_60 : decode cX11_stopAt 60 = .ok (.getfield 274, 3) := by decide +kernel
theorem dX11_stopAt_63 : decode cX11_stopAt 63 = .ok (.ireturn, 1) := by decide +kernel
theorem dX11_stopAt_64 : decode cX11_stopAt 64 = .ok (.iinc 3 1, 3) := by decide +kernel
theorem dX11_stopAt_67 : decode cX11_stopAt 67 = .ok (.goto (-32), 3) := by decide +kernel
theorem dX11_stopAt_70 : decode cX11_stopAt 70 = .ok (.iconst (-1), 1) := by decide +kernel
theorem dX11_stopAt_71 : decode cX11_stopAt 71 = .ok (.ireturn, 1) := by decide +kernel
theorem dX11_comes_0 : decode cX11_comes 0 = .ok (.aload_n 0, 1) := by decide +kernel
theorem dX11_comes_1 : decode cX11_comes 1 = .ok (.getfield 27, 3) := by decide +kernel
theorem dX11_comes_4 : decode cX11_comes 4 = .ok (.iload_n 1, 1) := by decide +kernel
theorem dX11_comes_5 : decode cX11_comes 5 = .ok (.invokevirtual 135, 3) := by decide +kernel
theorem dX11_comes_8 : decode cX11_comes 8 = .ok (.ifCond .eq 14, 3) := by decide +kernel
theorem dX11_comes_11 : decode cX11_comes 11 = .ok (.aload_n 0, 1) := by decide +kernel
theorem dX11_comes_12 : decode cX11_comes 12 = .ok (.getfield 27, 3) := by decide +kernel
theorem dX11_comes_15 : decode cX11_comes 15 = .ok (.iload_n 2, 1) := by decide +kernel
theorem dX11_comes_16 : decode cX11_comes 16 = .ok (.invokevirtual 191, 3) := by decide +kernel
theorem dX11_comes_19 : decode cX11_comes 19 = .ok (.ifCond .ne 6, 3) := by decide +kernel
theorem dX11_comes_22 : decode cX11_comes 22 = .ok (.bipush (-2), 2) := by decide +kernel
theorem dX11_comes_24 : decode cX11_comes 24 = .ok (.ireturn, 1) := by decide +kernel
theorem dX11_comes_25 : decode cX11_comes 25 = .ok (.aload_n 0, 1) := by decide +kernel
theorem dX11_comes_26 : decode cX11_comes 26 = .ok (.getfield 73, 3) := by decide +kernel
theorem dX11_comes_29 : decode cX11_comes 29 = .ok (.aload_n 0, 1) := by decide +kernel
theorem dX11_comes_30 : decode cX11_comes 30 = .ok (.getfield 34, 3) := by decide +kernel
theorem dX11_comes_33 : decode cX11_comes 33 = .ok (.iload_n 1, 1) := by decide +kernel
theorem dX11_comes_34 : decode cX11_comes 34 = .ok (.invokevirtual 159, 3) := by decide +kernel
theorem dX11_comes_37 : decode cX11_comes 37 = .ok (.aload_n 0, 1) := by decide +kernel
theorem dX11_comes_38 : decode cX11_comes 38 = .ok (.getfield 73, 3) := by decide +kernel
theorem dX11_comes_41 : decode cX11_comes 41 = .ok (.iload_n 2, 1) := by decide +kernel
theorem dX11_comes_42 : decode cX11_comes 42 = .ok (.invokevirtual 277, 3) := by decide +kernel
theorem dX11_comes_45 : decode cX11_comes 45 = .ok (.ireturn, 1) := by decide +kernel
theorem dX11_restsBy_0 : decode cX11_restsBy 0 = .ok (.aload_n 0, 1) := by decide +kernel
theorem dX11_restsBy_1 : decode cX11_restsBy 1 = .ok (.getfield 27, 3) := by decide +kernel
theorem dX11_restsBy_4 : decode cX11_restsBy 4 = .ok (.iload_n 1, 1) := by decide +kernel
theorem dX11_restsBy_5 : decode cX11_restsBy 5 = .ok (.invokevirtual 135, 3) := by decide +kernel
theorem dX11_restsBy_8 : decode cX11_restsBy 8 = .ok (.ifCond .ne 6, 3) := by decide +kernel
theorem dX11_restsBy_11 : decode cX11_restsBy 11 = .ok (.bipush (-2), 2) := by decide +kernel
theorem dX11_restsBy_13 : decode cX11_restsBy 13 = .ok (.ireturn, 1) := by decide +kernel
theorem dX11_restsBy_14 : decode cX11_restsBy 14 = .ok (.aload_n 0, 1) := by decide +kernel
theorem dX11_restsBy_15 : decode cX11_restsBy 15 = .ok (.getfield 73, 3) := by decide +kernel
theorem dX11_restsBy_18 : decode cX11_restsBy 18 = .ok (.aload_n 0, 1) := by decide +kernel
theorem dX11_restsBy_19 : decode cX11_restsBy 19 = .ok (.getfield 34, 3) := by decide +kernel
theorem dX11_restsBy_22 : decode cX11_restsBy 22 = .ok (.iload_n 1, 1) := by decide +kernel
theorem dX11_restsBy_23 : decode cX11_restsBy 23 = .ok (.invokevirtual 159, 3) := by decide +kernel
theorem dX11_restsBy_26 : decode cX11_restsBy 26 = .ok (.aload_n 0, 1) := by decide +kernel
theorem dX11_restsBy_27 : decode cX11_restsBy 27 = .ok (.getfield 73, 3) := by decide +kernel
theorem dX11_restsBy_30 : decode cX11_restsBy 30 = .ok (.invokevirtual 280, 3) := by decide +kernel
theorem dX11_restsBy_33 : decode cX11_restsBy 33 = .ok (.aload_n 0, 1) := by decide +kernel
theorem dX11_restsBy_34 : decode cX11_restsBy 34 = .ok (.getfield 73, 3) := by decide +kernel
theorem dX11_restsBy_37 : decode cX11_restsBy 37 = .ok (.getfield 283, 3) := by decide +kernel
theorem dX11_restsBy_40 : decode cX11_restsBy 40 = .ok (.ireturn, 1) := by decide +kernel
theorem dX11_best_0 : decode cX11_best 0 = .ok (.aload_n 0, 1) := by decide +kernel
theorem dX11_best_1 : decode cX11_best 1 = .ok (.getfield 27, 3) := by decide +kernel
theorem dX11_best_4 : decode cX11_best 4 = .ok (.iload_n 1, 1) := by decide +kernel
theorem dX11_best_5 : decode cX11_best 5 = .ok (.invokevirtual 167, 3) := by decide +kernel
theorem dX11_best_8 : decode cX11_best 8 = .ok (.ifCond .eq 12, 3) := by decide +kernel
theorem dX11_best_11 : decode cX11_best 11 = .ok (.iload_n 2, 1) := by decide +kernel
theorem dX11_best_12 : decode cX11_best 12 = .ok (.ifCond .lt 8, 3) := by decide +kernel
theorem dX11_best_15 : decode cX11_best 15 = .ok (.iload_n 2, 1) := by decide +kernel
theorem dX11_best_16 : decode cX11_best 16 = .ok (.iconst 1, 1) := by decide +kernel
theorem dX11_best_17 : decode cX11_best 17 = .ok (.if_icmp .le 6, 3) := by decide +kernel
theorem dX11_best_20 : decode cX11_best 20 = .ok (.bipush (-2), 2) := by decide +kernel
theorem dX11_best_22 : decode cX11_best 22 = .ok (.ireturn, 1) := by decide +kernel
theorem dX11_best_23 : decode cX11_best 23 = .ok (.aload_n 0, 1) := by decide +kernel
theorem dX11_best_24 : decode cX11_best 24 = .ok (.getfield 34, 3) := by decide +kernel
theorem dX11_best_27 : decode cX11_best 27 = .ok (.getfield 176, 3) := by decide +kernel
theorem dX11_best_30 : decode cX11_best 30 = .ok (.iload_n 1, 1) := by decide +kernel
theorem dX11_best_31 : decode cX11_best 31 = .ok (.iaload, 1) := by decide +kernel
theorem dX11_best_32 : decode cX11_best 32 = .ok (.istore_n 3, 1) := by decide +kernel
theorem dX11_best_33 : decode cX11_best 33 = .ok (.iload_n 3, 1) := by decide +kernel
theorem dX11_best_34 : decode cX11_best 34 = .ok (.iconst (-1), 1) := by decide +kernel
theorem dX11_best_35 : decode cX11_best 35 = .ok (.if_icmp .ne 17, 3) := by decide +kernel
theorem dX11_best_38 : decode cX11_best 38 = .ok (.iload_n 2, 1) := by decide +kernel
theorem dX11_best_39 : decode cX11_best 39 = .ok (.ifCond .ne 11, 3) := by decide +kernel
theorem dX11_best_42 : decode cX11_best 42 = .ok (.aload_n 0, 1) := by decide +kernel
theorem dX11_best_43 : decode cX11_best 43 = .ok (.iload_n 1, 1) := by decide +kernel
theorem dX11_best_44 : decode cX11_best 44 = .ok (.invokevirtual 286, 3) := by decide +kernel
theorem dX11_best_47 : decode cX11_best 47 = .ok (.goto 4, 3) := by decide +kernel
theorem dX11_best_50 : decode cX11_best 50 = .ok (.iconst (-1), 1) := by decide +kernel
theorem dX11_best_51 : decode cX11_best 51 = .ok (.ireturn, 1) := by decide +kernel
theorem dX11_best_52 : decode cX11_best 52 = .ok (.aload_n 0, 1) := by decide +kernel
theorem dX11_best_53 : decode cX11_best 53 = .ok (.getfield 89, 3) := by decide +kernel
theorem dX11_best_56 : decode cX11_best 56 = .ok (.iload_n 3, 1) := by decide +kernel
theorem dX11_best_57 : decode cX11_best 57 = .ok (.aload_n 0, 1) := by decide +kernel
theorem dX11_best_58 : decode cX11_best 58 = .ok (.getfield 34, 3) := by decide +kernel
theorem dX11_best_61 : decode cX11_best 61 = .ok (.getfield 146, 3) := by decide +kernel
theorem dX11_best_64 : decode cX11_best 64 = .ok (.iload_n 3, 1) := by decide +kernel
theorem dX11_best_65 : decode cX11_best 65 = .ok (.iaload, 1) := by decide +kernel
theorem dX11_best_66 : decode cX11_best 66 = .ok (.invokevirtual 289, 3) := by decide +kernel
theorem dX11_best_69 : decode cX11_best 69 = .ok (.iload_n 2, 1) := by decide +kernel
theorem dX11_best_70 : decode cX11_best 70 = .ok (.ifCond .ne 15, 3) := by decide +kernel
theorem dX11_best_73 : decode cX11_best 73 = .ok (.aload_n 0, 1) := by decide +kernel
theorem dX11_best_74 : decode cX11_best 74 = .ok (.getfield 89, 3) := by decide +kernel
theorem dX11_best_77 : decode cX11_best 77 = .ok (.getfield 293, 3) := by decide +kernel
theorem dX11_best_80 : decode cX11_best 80 = .ok (.iload_n 1, 1) := by decide +kernel
theorem dX11_best_81 : decode cX11_best 81 = .ok (.iaload, 1) := by decide +kernel
theorem dX11_best_82 : decode cX11_best 82 = .ok (.goto 12, 3) := by decide +kernel
theorem dX11_best_85 : decode cX11_best 85 = .ok (.aload_n 0, 1) := by decide +kernel
theorem dX11_best_86 : decode cX11_best 86 = .ok (.getfield 89, 3) := by decide +kernel
theorem dX11_best_89 : decode cX11_best 89 = .ok (.getfield 296, 3) := by decide +kernel
theorem dX11_best_92 : decode cX11_best 92 = .ok (.iload_n 1, 1) := by decide +kernel
theorem dX11_best_93 : decode cX11_best 93 = .ok (.iaload, 1) := by decide +kernel
theorem dX11_best_94 : decode cX11_best 94 = .ok (.ireturn, 1) := by decide +kernel
theorem dX11_homeBy_0 : decode cX11_homeBy 0 = .ok (.aload_n 0, 1) := by decide +kernel
theorem dX11_homeBy_1 : decode cX11_homeBy 1 = .ok (.getfield 27, 3) := by decide +kernel
theorem dX11_homeBy_4 : decode cX11_homeBy 4 = .ok (.iload_n 1, 1) := by decide +kernel
theorem dX11_homeBy_5 : decode cX11_homeBy 5 = .ok (.invokevirtual 167, 3) := by decide +kernel
theorem dX11_homeBy_8 : decode cX11_homeBy 8 = .ok (.ifCond .eq 14, 3) := by decide +kernel
theorem dX11_homeBy_11 : decode cX11_homeBy 11 = .ok (.aload_n 0, 1) := by decide +kernel
theorem dX11_homeBy_12 : decode cX11_homeBy 12 = .ok (.getfield 27, 3) := by decide +kernel
theorem dX11_homeBy_15 : decode cX11_homeBy 15 = .ok (.iload_n 2, 1) := by decide +kernel
theorem dX11_homeBy_16 : decode cX11_homeBy 16 = .ok (.invokevirtual 191, 3) := by decide +kernel
theorem dX11_homeBy_19 : decode cX11_homeBy 19 = .ok (.ifCond .ne 6, 3) := by decide +kernel
theorem dX11_homeBy_22 : decode cX11_homeBy 22 = .ok (.bipush (-2), 2) := by decide +kernel
theorem dX11_homeBy_24 : decode cX11_homeBy 24 = .ok (.ireturn, 1) := by decide +kernel
theorem dX11_homeBy_25 : decode cX11_homeBy 25 = .ok (.aload_n 0, 1) := by decide +kernel
theorem dX11_homeBy_26 : decode cX11_homeBy 26 = .ok (.getfield 34, 3) := by decide +kernel
theorem dX11_homeBy_29 : decode cX11_homeBy 29 = .ok (.getfield 176, 3) := by decide +kernel
theorem dX11_homeBy_32 : decode cX11_homeBy 32 = .ok (.iload_n 1, 1) := by decide +kernel
theorem dX11_homeBy_33 : decode cX11_homeBy 33 = .ok (.iaload, 1) := by decide +kernel
theorem dX11_homeBy_34 : decode cX11_homeBy 34 = .ok (.istore_n 3, 1) := by decide +kernel
theorem dX11_homeBy_35 : decode cX11_homeBy 35 = .ok (.iload_n 3, 1) := by decide +kernel
theorem dX11_homeBy_36 : decode cX11_homeBy 36 = .ok (.iconst (-1), 1) := by decide +kernel
theorem dX11_homeBy_37 : decode cX11_homeBy 37 = .ok (.if_icmp .ne 6, 3) := by decide +kernel
theorem dX11_homeBy_40 : decode cX11_homeBy 40 = .ok (.bipush (-5), 2) := by decide +kernel
theorem dX11_homeBy_42 : decode cX11_homeBy 42 = .ok (.ireturn, 1) := by decide +kernel
theorem dX11_homeBy_43 : decode cX11_homeBy 43 = .ok (.iload_n 2, 1) := by decide +kernel
theorem dX11_homeBy_44 : decode cX11_homeBy 44 = .ok (.aload_n 0, 1) := by decide +kernel
theorem dX11_homeBy_45 : decode cX11_homeBy 45 = .ok (.getfield 34, 3) := by decide +kernel
theorem dX11_homeBy_48 : decode cX11_homeBy 48 = .ok (.getfield 170, 3) := by decide +kernel
theorem dX11_homeBy_51 : decode cX11_homeBy 51 = .ok (.iload_n 1, 1) := by decide +kernel
theorem dX11_homeBy_52 : decode cX11_homeBy 52 = .ok (.iaload, 1) := by decide +kernel
theorem dX11_homeBy_53 : decode cX11_homeBy 53 = .ok (.if_icmp .ne 9, 3) := by decide +kernel
theorem dX11_homeBy_56 : decode cX11_homeBy 56 = .ok (.aload_n 0, 1) := by decide +kernel
theorem dX11_homeBy_57 : decode cX11_homeBy 57 = .ok (.iload_n 1, 1) := by decide +kernel
theorem dX11_homeBy_58 : decode cX11_homeBy 58 = .ok (.invokevirtual 286, 3) := by decide +kernel
theorem dX11_homeBy_61 : decode cX11_homeBy 61 = .ok (.ireturn, 1) := by decide +kernel
theorem dX11_homeBy_62 : decode cX11_homeBy 62 = .ok (.aload_n 0, 1) := by decide +kernel
theorem dX11_homeBy_63 : decode cX11_homeBy 63 = .ok (.getfield 73, 3) := by decide +kernel
theorem dX11_homeBy_66 : decode cX11_homeBy 66 = .ok (.aload_n 0, 1) := by decide +kernel
theorem dX11_homeBy_67 : decode cX11_homeBy 67 = .ok (.getfield 34, 3) := by decide +kernel
theorem dX11_homeBy_70 : decode cX11_homeBy 70 = .ok (.iload_n 3, 1) := by decide +kernel
theorem dX11_homeBy_71 : decode cX11_homeBy 71 = .ok (.invokevirtual 159, 3) := by decide +kernel
theorem dX11_homeBy_74 : decode cX11_homeBy 74 = .ok (.aload_n 0, 1) := by decide +kernel
theorem dX11_homeBy_75 : decode cX11_homeBy 75 = .ok (.getfield 73, 3) := by decide +kernel
theorem dX11_homeBy_78 : decode cX11_homeBy 78 = .ok (.iload_n 2, 1) := by decide +kernel
theorem dX11_homeBy_79 : decode cX11_homeBy 79 = .ok (.invokevirtual 277, 3) := by decide +kernel
theorem dX11_homeBy_82 : decode cX11_homeBy 82 = .ok (.istore 4, 2) := by decide +kernel
theorem dX11_homeBy_84 : decode cX11_homeBy 84 = .ok (.iload 4, 2) := by decide +kernel
theorem dX11_homeBy_86 : decode cX11_homeBy 86 = .ok (.iconst (-1), 1) := by decide +kernel
theorem dX11_homeBy_87 : decode cX11_homeBy 87 = .ok (.if_icmp .ne 7, 3) := by decide +kernel
theorem dX11_homeBy_90 : decode cX11_homeBy 90 = .ok (.iconst (-1), 1) := by decide +kernel
theorem dX11_homeBy_91 : decode cX11_homeBy 91 = .ok (.goto 15, 3) := by decide +kernel
theorem dX11_homeBy_94 : decode cX11_homeBy 94 = .ok (.iload 4, 2) := by decide +kernel
theorem dX11_homeBy_96 : decode cX11_homeBy 96 = .ok (.aload_n 0, 1) := by decide +kernel
theorem dX11_homeBy_97 : decode cX11_homeBy 97 = .ok (.getfield 27, 3) := by decide +kernel
theorem dX11_homeBy_100 : decode cX11_homeBy 100 = .ok (.iload_n 1, 1) := by decide +kernel
theorem dX11_homeBy_101 : decode cX11_homeBy 101 = .ok (.iload_n 2, 1) := by decide +kernel
theorem dX11_homeBy_102 : decode cX11_homeBy 102 = .ok (.invokevirtual 299, 3) := by decide +kernel
theorem dX11_homeBy_105 : decode cX11_homeBy 105 = .ok (.iadd, 1) := by decide +kernel
theorem dX11_homeBy_106 : decode cX11_homeBy 106 = .ok (.ireturn, 1) := by decide +kernel
theorem dX11_all_0 : decode cX11_all 0 = .ok (.aload_n 0, 1) := by decide +kernel
theorem dX11_all_1 : decode cX11_all 1 = .ok (.getfield 27, 3) := by decide +kernel
theorem dX11_all_4 : decode cX11_all 4 = .ok (.iload_n 1, 1) := by decide +kernel
theorem dX11_all_5 : decode cX11_all 5 = .ok (.invokevirtual 135, 3) := by decide +kernel
theorem dX11_all_8 : decode cX11_all 8 = .ok (.ifCond .eq 23, 3) := by decide +kernel
theorem dX11_all_11 : decode cX11_all 11 = .ok (.aload_n 0, 1) := by decide +kernel
theorem dX11_all_12 : decode cX11_all 12 = .ok (.getfield 89, 3) := by decide +kernel
theorem dX11_all_15 : decode cX11_all 15 = .ok (.iload_n 1, 1) := by decide +kernel
theorem dX11_all_16 : decode cX11_all 16 = .ok (.aload_n 0, 1) := by decide +kernel
theorem dX11_all_17 : decode cX11_all 17 = .ok (.getfield 34, 3) := by decide +kernel
theorem dX11_all_20 : decode cX11_all 20 = .ok (.getfield 146, 3) := by decide +kernel
theorem dX11_all_23 : decode cX11_all 23 = .ok (.iload_n 1, 1) := by decide +kernel
theorem dX11_all_24 : decode cX11_all 24 = .ok (.iaload, 1) := by decide +kernel
theorem dX11_all_25 : decode cX11_all 25 = .ok (.invokevirtual 302, 3) := by decide +kernel
theorem dX11_all_28 : decode cX11_all 28 = .ok (.goto 6, 3) := by decide +kernel
theorem dX11_all_31 : decode cX11_all 31 = .ok (.ldc2_w 306, 3) := by decide +kernel
theorem dX11_all_34 : decode cX11_all 34 = .ok (.lreturn, 1) := by decide +kernel
theorem dX11_latest_0 : decode cX11_latest 0 = .ok (.aload_n 0, 1) := by decide +kernel
theorem dX11_latest_1 : decode cX11_latest 1 = .ok (.getfield 27, 3) := by decide +kernel
theorem dX11_latest_4 : decode cX11_latest 4 = .ok (.iload_n 1, 1) := by decide +kernel
theorem dX11_latest_5 : decode cX11_latest 5 = .ok (.invokevirtual 135, 3) := by decide +kernel
theorem dX11_latest_8 : decode cX11_latest 8 = .ok (.ifCond .eq 23, 3) := by decide +kernel
theorem dX11_latest_11 : decode cX11_latest 11 = .ok (.aload_n 0, 1) := by decide +kernel
theorem dX11_latest_12 : decode cX11_latest 12 = .ok (.getfield 89, 3) := by decide +kernel
theorem dX11_latest_15 : decode cX11_latest 15 = .ok (.iload_n 1, 1) := by decide +kernel
theorem dX11_latest_16 : decode cX11_latest 16 = .ok (.aload_n 0, 1) := by decide +kernel
theorem dX11_latest_17 : decode cX11_latest 17 = .ok (.getfield 34, 3) := by decide +kernel
theorem dX11_latest_20 : decode cX11_latest 20 = .ok (.getfield 146, 3) := by decide +kernel
theorem dX11_latest_23 : decode cX11_latest 23 = .ok (.iload_n 1, 1) := by decide +kernel
theorem dX11_latest_24 : decode cX11_latest 24 = .ok (.iaload, 1) := by decide +kernel
theorem dX11_latest_25 : decode cX11_latest 25 = .ok (.invokevirtual 308, 3) := by decide +kernel
theorem dX11_latest_28 : decode cX11_latest 28 = .ok (.goto 5, 3) := by decide +kernel
theorem dX11_latest_31 : decode cX11_latest 31 = .ok (.bipush (-2), 2) := by decide +kernel
theorem dX11_latest_33 : decode cX11_latest 33 = .ok (.ireturn, 1) := by decide +kernel
theorem dX11_walkers_0 : decode cX11_walkers 0 = .ok (.aload_n 0, 1) := by decide +kernel
theorem dX11_walkers_1 : decode cX11_walkers 1 = .ok (.getfield 27, 3) := by decide +kernel
theorem dX11_walkers_4 : decode cX11_walkers 4 = .ok (.iload_n 1, 1) := by decide +kernel
theorem dX11_walkers_5 : decode cX11_walkers 5 = .ok (.invokevirtual 135, 3) := by decide +kernel
theorem dX11_walkers_8 : decode cX11_walkers 8 = .ok (.ifCond .ne 6, 3) := by decide +kernel
theorem dX11_walkers_11 : decode cX11_walkers 11 = .ok (.bipush (-2), 2) := by decide +kernel
theorem dX11_walkers_13 : decode cX11_walkers 13 = .ok (.ireturn, 1) := by decide +kernel
theorem dX11_walkers_14 : decode cX11_walkers 14 = .ok (.aload_n 0, 1) := by decide +kernel
theorem dX11_walkers_15 : decode cX11_walkers 15 = .ok (.getfield 89, 3) := by decide +kernel
theorem dX11_walkers_18 : decode cX11_walkers 18 = .ok (.iload_n 1, 1) := by decide +kernel
theorem dX11_walkers_19 : decode cX11_walkers 19 = .ok (.aload_n 0, 1) := by decide +kernel
theorem dX11_walkers_20 : decode cX11_walkers 20 = .ok (.getfield 34, 3) := by decide +kernel
theorem dX11_walkers_23 : decode cX11_walkers 23 = .ok (.getfield 146, 3) := by decide +kernel
theorem dX11_walkers_26 : decode cX11_walkers 26 = .ok (.iload_n 1, 1) := by decide +kernel
theorem dX11_walkers_27 : decode cX11_walkers 27 = .ok (.iaload, 1) := by decide +kernel
theorem dX11_walkers_28 : decode cX11_walkers 28 = .ok (.invokevirtual 289, 3) := by decide +kernel
theorem dX11_walkers_31 : decode cX11_walkers 31 = .ok (.iconst 0, 1) := by decide +kernel
theorem dX11_walkers_32 : decode cX11_walkers 32 = .ok (.istore_n 2, 1) := by decide +kernel
theorem dX11_walkers_33 : decode cX11_walkers 33 = .ok (.iconst 0, 1) := by decide +kernel
theorem dX11_walkers_34 : decode cX11_walkers 34 = .ok (.istore_n 3, 1) := by decide +kernel
theorem dX11_walkers_35 : decode cX11_walkers 35 = .ok (.iload_n 3, 1) := by decide +kernel
theorem dX11_walkers_36 : decode cX11_walkers 36 = .ok (.aload_n 0, 1) := by decide +kernel
theorem dX11_walkers_37 : decode cX11_walkers 37 = .ok (.getfield 27, 3) := by decide +kernel
theorem dX11_walkers_40 : decode cX11_walkers 40 = .ok (.getfield 265, 3) := by decide +kernel
theorem dX11_walkers_43 : decode cX11_walkers 43 = .ok (.if_icmp .ge 49, 3) := by decide +kernel
theorem dX11_walkers_46 : decode cX11_walkers 46 = .ok (.aload_n 0, 1) := by decide +kernel
theorem dX11_walkers_47 : decode cX11_walkers 47 = .ok (.getfield 34, 3) := by decide +kernel
theorem dX11_walkers_50 : decode cX11_walkers 50 = .ok (.getfield 176, 3) := by decide +kernel
theorem dX11_walkers_53 : decode cX11_walkers 53 = .ok (.iload_n 3, 1) := by decide +kernel
theorem dX11_walkers_54 : decode cX11_walkers 54 = .ok (.iaload, 1) := by decide +kernel
theorem dX11_walkers_55 : decode cX11_walkers 55 = .ok (.iload_n 1, 1) := by decide +kernel
theorem dX11_walkers_56 : decode cX11_walkers 56 = .ok (.if_icmp .ne 30, 3) := by decide +kernel
theorem dX11_walkers_59 : decode cX11_walkers 59 = .ok (.aload_n 0, 1) := by decide +kernel
theorem dX11_walkers_60 : decode cX11_walkers 60 = .ok (.getfield 89, 3) := by decide +kernel
theorem dX11_walkers_63 : decode cX11_walkers 63 = .ok (.getfield 296, 3) := by decide +kernel
theorem dX11_walkers_66 : decode cX11_walkers 66 = .ok (.iload_n 3, 1) := by decide +kernel
theorem dX11_walkers_67 : decode cX11_walkers 67 = .ok (.iaload, 1) := by decide +kernel
theorem dX11_walkers_68 : decode cX11_walkers 68 = .ok (.aload_n 0, 1) := by decide +kernel
theorem dX11_walkers_69 : decode cX11_walkers 69 = .ok (.getfield 27, 3) := by decide +kernel
theorem dX11_walkers_72 : decode cX11_walkers 72 = .ok (.getfield 179, 3) := by decide +kernel
theorem dX11_walkers_75 : decode cX11_walkers 75 = .ok (.iload_n 3, 1) := by decide +kernel
theorem dX11_walkers_76 : decode cX11_walkers 76 = .ok (.iaload, 1) := by decide +kernel
theorem dX11_walkers_77 : decode cX11_walkers 77 = .ok (.if_icmp .eq 9, 3) := by decide +kernel
theorem dX11_walkers_80 : decode cX11_walkers 80 = .ok (.iload_n 2, 1) := by decide +kernel
theorem dX11_walkers_81 : decode cX11_walkers 81 = .ok (.iconst 1, 1) := by decide +kernel
theorem dX11_walkers_82 : decode cX11_walkers 82 = .ok (.iload_n 3, 1) := by decide +kernel
theorem dX11_walkers_83 : decode cX11_walkers 83 = .ok (.ishl, 1) := by decide +kernel
theorem dX11_walkers_84 : decode cX11_walkers 84 = .ok (.ior, 1) := by decide +kernel
theorem dX11_walkers_85 : decode cX11_walkers 85 = .ok (.istore_n 2, 1) := by decide +kernel
theorem dX11_walkers_86 : decode cX11_walkers 86 = .ok (.iinc 3 1, 3) := by decide +kernel
theorem dX11_walkers_89 : decode cX11_walkers 89 = .ok (.goto (-54), 3) := by decide +kernel
theorem dX11_walkers_92 : decode cX11_walkers 92 = .ok (.iload_n 2, 1) := by decide +kernel
theorem dX11_walkers_93 : decode cX11_walkers 93 = .ok (.ireturn, 1) := by decide +kernel
theorem dX11_waits_0 : decode cX11_waits 0 = .ok (.aload_n 0, 1) := by decide +kernel
theorem dX11_waits_1 : decode cX11_waits 1 = .ok (.getfield 27, 3) := by decide +kernel
theorem dX11_waits_4 : decode cX11_waits 4 = .ok (.iload_n 1, 1) := by decide +kernel
theorem dX11_waits_5 : decode cX11_waits 5 = .ok (.invokevirtual 167, 3) := by decide +kernel
theorem dX11_waits_8 : decode cX11_waits 8 = .ok (.ifCond .eq 14, 3) := by decide +kernel
theorem dX11_waits_11 : decode cX11_waits 11 = .ok (.aload_n 0, 1) := by decide +kernel
theorem dX11_waits_12 : decode cX11_waits 12 = .ok (.getfield 27, 3) := by decide +kernel
theorem dX11_waits_15 : decode cX11_waits 15 = .ok (.iload_n 2, 1) := by decide +kernel
theorem dX11_waits_16 : decode cX11_waits 16 = .ok (.invokevirtual 135, 3) := by decide +kernel
theorem dX11_waits_19 : decode cX11_waits 19 = .ok (.ifCond .ne 6, 3) := by decide +kernel
theorem dX11_waits_22 : decode cX11_waits 22 = .ok (.bipush (-2), 2) := by decide +kernel
theorem dX11_waits_24 : decode cX11_waits 24 = .ok (.ireturn, 1) := by decide +kernel
theorem dX11_waits_25 : decode cX11_waits 25 = .ok (.aload_n 0, 1) := by decide +kernel
theorem dX11_waits_26 : decode cX11_waits 26 = .ok (.getfield 34, 3) := by decide +kernel
theorem dX11_waits_29 : decode cX11_waits 29 = .ok (.getfield 176, 3) := by decide +kernel
theorem dX11_waits_32 : decode cX11_waits 32 = .ok (.iload_n 1, 1) := by decide +kernel
theorem dX11_waits_33 : decode cX11_waits 33 = .ok (.iaload, 1) := by decide +kernel
theorem dX11_waits_34 : decode cX11_waits 34 = .ok (.iconst (-1), 1) := by decide +kernel
theorem dX11_waits_35 : decode cX11_waits 35 = .ok (.if_icmp .eq 6, 3) := by decide +kernel
theorem dX11_waits_38 : decode cX11_waits 38 = .ok (.bipush (-5), 2) := by decide +kernel
theorem dX11_waits_40 : decode cX11_waits 40 = .ok (.ireturn, 1) := by decide +kernel
theorem dX11_waits_41 : decode cX11_waits 41 = .ok (.aload_n 0, 1) := by decide +kernel
theorem dX11_waits_42 : decode cX11_waits 42 = .ok (.getfield 96, 3) := by decide +kernel
theorem dX11_waits_45 : decode cX11_waits 45 = .ok (.iload_n 1, 1) := by decide +kernel
theorem dX11_waits_46 : decode cX11_waits 46 = .ok (.iload_n 2, 1) := by decide +kernel
theorem dX11_waits_47 : decode cX11_waits 47 = .ok (.invokevirtual 311, 3) := by decide +kernel
theorem dX11_waits_50 : decode cX11_waits 50 = .ok (.ireturn, 1) := by decide +kernel
theorem dX11_choice_0 : decode cX11_choice 0 = .ok (.aload_n 0, 1) := by decide +kernel
theorem dX11_choice_1 : decode cX11_choice 1 = .ok (.getfield 27, 3) := by decide +kernel
theorem dX11_choice_4 : decode cX11_choice 4 = .ok (.iload_n 1, 1) := by decide +kernel
theorem dX11_choice_5 : decode cX11_choice 5 = .ok (.invokevirtual 167, 3) := by decide +kernel
theorem dX11_choice_8 : decode cX11_choice 8 = .ok (.ifCond .ne 6, 3) := by decide +kernel
theorem dX11_choice_11 : decode cX11_choice 11 = .ok (.bipush (-2), 2) := by decide +kernel
theorem dX11_choice_13 : decode cX11_choice 13 = .ok (.ireturn, 1) := by decide +kernel
theorem dX11_choice_14 : decode cX11_choice 14 = .ok (.aload_n 0, 1) := by decide +kernel
theorem dX11_choice_15 : decode cX11_choice 15 = .ok (.getfield 34, 3) := by decide +kernel
theorem dX11_choice_18 : decode cX11_choice 18 = .ok (.getfield 176, 3) := by decide +kernel
theorem dX11_choice_21 : decode cX11_choice 21 = .ok (.iload_n 1, 1) := by decide +kernel
theorem dX11_choice_22 : decode cX11_choice 22 = .ok (.iaload, 1) := by decide +kernel
theorem dX11_choice_23 : decode cX11_choice 23 = .ok (.iconst (-1), 1) := by decide +kernel
theorem dX11_choice_24 : decode cX11_choice 24 = .ok (.if_icmp .eq 6, 3) := by decide +kernel
theorem dX11_choice_27 : decode cX11_choice 27 = .ok (.bipush (-5), 2) := by decide +kernel
theorem dX11_choice_29 : decode cX11_choice 29 = .ok (.ireturn, 1) := by decide +kernel
theorem dX11_choice_30 : decode cX11_choice 30 = .ok (.iconst (-1), 1) := by decide +kernel
theorem dX11_choice_31 : decode cX11_choice 31 = .ok (.istore_n 2, 1) := by decide +kernel
theorem dX11_choice_32 : decode cX11_choice 32 = .ok (.aload_n 0, 1) := by decide +kernel
theorem dX11_choice_33 : decode cX11_choice 33 = .ok (.iload_n 1, 1) := by decide +kernel
theorem dX11_choice_34 : decode cX11_choice 34 = .ok (.invokevirtual 286, 3) := by decide +kernel
theorem dX11_choice_37 : decode cX11_choice 37 = .ok (.istore_n 3, 1) := by decide +kernel
theorem dX11_choice_38 : decode cX11_choice 38 = .ok (.iconst 0, 1) := by decide +kernel
theorem dX11_choice_39 : decode cX11_choice 39 = .ok (.istore 4, 2) := by decide +kernel
theorem dX11_choice_41 : decode cX11_choice 41 = .ok (.iload 4, 2) := by decide +kernel
theorem dX11_choice_43 : decode cX11_choice 43 = .ok (.aload_n 0, 1) := by decide +kernel
theorem dX11_choice_44 : decode cX11_choice 44 = .ok (.getfield 27, 3) := by decide +kernel
theorem dX11_choice_47 : decode cX11_choice 47 = .ok (.getfield 262, 3) := by decide +kernel
theorem dX11_choice_50 : decode cX11_choice 50 = .ok (.if_icmp .ge 33, 3) := by decide +kernel
theorem dX11_choice_53 : decode cX11_choice 53 = .ok (.aload_n 0, 1) := by decide +kernel
theorem dX11_choice_54 : decode cX11_choice 54 = .ok (.getfield 96, 3) := by decide +kernel
theorem dX11_choice_57 : decode cX11_choice 57 = .ok (.iload_n 1, 1) := by decide +kernel
theorem dX11_choice_58 : decode cX11_choice 58 = .ok (.iload 4, 2) := by decide +kernel
theorem dX11_choice_60 : decode cX11_choice 60 = .ok (.invokevirtual 311, 3) := by decide +kernel
theorem dX11_choice_63 : decode cX11_choice 63 = .ok (.istore 5, 2) := by decide +kernel
theorem dX11_choice_65 : decode cX11_choice 65 = .ok (.iload 5, 2) := by decide +kernel
theorem dX11_choice_67 : decode cX11_choice 67 = .ok (.iload_n 3, 1) := by decide +kernel
theorem dX11_choice_68 : decode cX11_choice 68 = .ok (.if_icmp .ge 9, 3) := by decide +kernel
theorem dX11_choice_71 : decode cX11_choice 71 = .ok (.iload 5, 2) := by decide +kernel
theorem dX11_choice_73 : decode cX11_choice 73 = .ok (.istore_n 3, 1) := by decide +kernel
theorem dX11_choice_74 : decode cX11_choice 74 = .ok (.iload 4, 2) := by decide +kernel
theorem dX11_choice_76 : decode cX11_choice 76 = .ok (.istore_n 2, 1) := by decide +kernel
theorem dX11_choice_77 : decode cX11_choice 77 = .ok (.iinc 4 1, 3) := by decide +kernel
theorem dX11_choice_80 : decode cX11_choice 80 = .ok (.goto (-39), 3) := by decide +kernel
theorem dX11_choice_83 : decode cX11_choice 83 = .ok (.iload_n 2, 1) := by decide +kernel
theorem dX11_choice_84 : decode cX11_choice 84 = .ok (.ireturn, 1) := by decide +kernel
theorem dX11_least_0 : decode cX11_least 0 = .ok (.aload_n 0, 1) := by decide +kernel
theorem dX11_least_1 : decode cX11_least 1 = .ok (.getfield 27, 3) := by decide +kernel
theorem dX11_least_4 : decode cX11_least 4 = .ok (.iload_n 1, 1) := by decide +kernel
theorem dX11_least_5 : decode cX11_least 5 = .ok (.invokevirtual 135, 3) := by decide +kernel
theorem dX11_least_8 : decode cX11_least 8 = .ok (.ifCond .eq 12, 3) := by decide +kernel
theorem dX11_least_11 : decode cX11_least 11 = .ok (.iload_n 2, 1) := by decide +kernel
theorem dX11_least_12 : decode cX11_least 12 = .ok (.ifCond .lt 8, 3) := by decide +kernel
theorem dX11_least_15 : decode cX11_least 15 = .ok (.iload_n 2, 1) := by decide +kernel
theorem dX11_least_16 : decode cX11_least 16 = .ok (.iconst 1, 1) := by decide +kernel
theorem dX11_least_17 : decode cX11_least 17 = .ok (.if_icmp .le 7, 3) := by decide +kernel
theorem dX11_least_20 : decode cX11_least 20 = .ok (.ldc2_w 306, 3) := by decide +kernel
theorem dX11_least_23 : decode cX11_least 23 = .ok (.lreturn, 1) := by decide +kernel
theorem dX11_least_24 : decode cX11_least 24 = .ok (.aload_n 0, 1) := by decide +kernel
theorem dX11_least_25 : decode cX11_least 25 = .ok (.getfield 89, 3) := by decide +kernel
theorem dX11_least_28 : decode cX11_least 28 = .ok (.iload_n 1, 1) := by decide +kernel
theorem dX11_least_29 : decode cX11_least 29 = .ok (.iconst 0, 1) := by decide +kernel
theorem dX11_least_30 : decode cX11_least 30 = .ok (.invokevirtual 314, 3) := by decide +kernel
theorem dX11_least_33 : decode cX11_least 33 = .ok (.istore_n 3, 1) := by decide +kernel
theorem dX11_least_34 : decode cX11_least 34 = .ok (.iload_n 2, 1) := by decide +kernel
theorem dX11_least_35 : decode cX11_least 35 = .ok (.iconst 1, 1) := by decide +kernel
theorem dX11_least_36 : decode cX11_least 36 = .ok (.if_icmp .ne 8, 3) := by decide +kernel
theorem dX11_least_39 : decode cX11_least 39 = .ok (.iload_n 3, 1) := by decide +kernel
theorem dX11_least_40 : decode cX11_least 40 = .ok (.i2l, 1) := by decide +kernel
theorem dX11_least_41 : decode cX11_least 41 = .ok (.goto 12, 3) := by decide +kernel
theorem dX11_least_44 : decode cX11_least 44 = .ok (.aload_n 0, 1) := by decide +kernel
theorem dX11_least_45 : decode cX11_least 45 = .ok (.getfield 89, 3) := by decide +kernel
theorem dX11_least_48 : decode cX11_least 48 = .ok (.iload_n 1, 1) := by decide +kernel
theorem dX11_least_49 : decode cX11_least 49 = .ok (.iload_n 3, 1) := by decide +kernel
theorem dX11_least_50 : decode cX11_least 50 = .ok (.invokevirtual 302, 3) := by decide +kernel
theorem dX11_least_53 : decode cX11_least 53 = .ok (.lreturn, 1) := by decide +kernel
theorem dX11_fairest_0 : decode cX11_fairest 0 = .ok (.aload_n 0, 1) := by decide +kernel
theorem dX11_fairest_1 : decode cX11_fairest 1 = .ok (.getfield 27, 3) := by decide +kernel
theorem dX11_fairest_4 : decode cX11_fairest 4 = .ok (.iload_n 1, 1) := by decide +kernel
theorem dX11_fairest_5 : decode cX11_fairest 5 = .ok (.invokevirtual 135, 3) := by decide +kernel
theorem dX11_fairest_8 : decode cX11_fairest 8 = .ok (.ifCond .eq 12, 3) := by decide +kernel
theorem dX11_fairest_11 : decode cX11_fairest 11 = .ok (.iload_n 2, 1) := by decide +kernel
theorem dX11_fairest_12 : decode cX11_fairest 12 = .ok (.ifCond .lt 8, 3) := by decide +kernel
theorem dX11_fairest_15 : decode cX11_fairest 15 = .ok (.iload_n 2, 1) := by decide +kernel
theorem dX11_fairest_16 : decode cX11_fairest 16 = .ok (.iconst 1, 1) := by decide +kernel
theorem dX11_fairest_17 : decode cX11_fairest 17 = .ok (.if_icmp .le 6, 3) := by decide +kernel
theorem dX11_fairest_20 : decode cX11_fairest 20 = .ok (.bipush (-2), 2) := by decide +kernel
theorem dX11_fairest_22 : decode cX11_fairest 22 = .ok (.ireturn, 1) := by decide +kernel
theorem dX11_fairest_23 : decode cX11_fairest 23 = .ok (.aload_n 0, 1) := by decide +kernel
theorem dX11_fairest_24 : decode cX11_fairest 24 = .ok (.getfield 89, 3) := by decide +kernel
theorem dX11_fairest_27 : decode cX11_fairest 27 = .ok (.iload_n 1, 1) := by decide +kernel
theorem dX11_fairest_28 : decode cX11_fairest 28 = .ok (.iconst 1, 1) := by decide +kernel
theorem dX11_fairest_29 : decode cX11_fairest 29 = .ok (.invokevirtual 314, 3) := by decide +kernel
theorem dX11_fairest_32 : decode cX11_fairest 32 = .ok (.istore_n 3, 1) := by decide +kernel
theorem dX11_fairest_33 : decode cX11_fairest 33 = .ok (.iload_n 2, 1) := by decide +kernel
theorem dX11_fairest_34 : decode cX11_fairest 34 = .ok (.iconst 1, 1) := by decide +kernel
theorem dX11_fairest_35 : decode cX11_fairest 35 = .ok (.if_icmp .ne 7, 3) := by decide +kernel
theorem dX11_fairest_38 : decode cX11_fairest 38 = .ok (.iload_n 3, 1) := by decide +kernel
theorem dX11_fairest_39 : decode cX11_fairest 39 = .ok (.goto 12, 3) := by decide +kernel
theorem dX11_fairest_42 : decode cX11_fairest 42 = .ok (.aload_n 0, 1) := by decide +kernel
theorem dX11_fairest_43 : decode cX11_fairest 43 = .ok (.getfield 89, 3) := by decide +kernel
theorem dX11_fairest_46 : decode cX11_fairest 46 = .ok (.iload_n 1, 1) := by decide +kernel
theorem dX11_fairest_47 : decode cX11_fairest 47 = .ok (.iload_n 3, 1) := by decide +kernel
theorem dX11_fairest_48 : decode cX11_fairest 48 = .ok (.invokevirtual 308, 3) := by decide +kernel
theorem dX11_fairest_51 : decode cX11_fairest 51 = .ok (.ireturn, 1) := by decide +kernel
theorem dX11_costs_0 : decode cX11_costs 0 = .ok (.aload_n 0, 1) := by decide +kernel
theorem dX11_costs_1 : decode cX11_costs 1 = .ok (.getfield 27, 3) := by decide +kernel
theorem dX11_costs_4 : decode cX11_costs 4 = .ok (.iload_n 1, 1) := by decide +kernel
theorem dX11_costs_5 : decode cX11_costs 5 = .ok (.invokevirtual 135, 3) := by decide +kernel
theorem dX11_costs_8 : decode cX11_costs 8 = .ok (.ifCond .eq 26, 3) := by decide +kernel
theorem dX11_costs_11 : decode cX11_costs 11 = .ok (.aload_n 0, 1) := by decide +kernel
theorem dX11_costs_12 : decode cX11_costs 12 = .ok (.getfield 27, 3) := by decide +kernel
theorem dX11_costs_15 : decode cX11_costs 15 = .ok (.iload_n 2, 1) := by decide +kernel
theorem dX11_costs_16 : decode cX11_costs 16 = .ok (.invokevirtual 191, 3) := by decide +kernel
theorem dX11_costs_19 : decode cX11_costs 19 = .ok (.ifCond .eq 15, 3) := by decide +kernel
theorem dX11_costs_22 : decode cX11_costs 22 = .ok (.aload_n 0, 1) := by decide +kernel
theorem dX11_costs_23 : decode cX11_costs 23 = .ok (.getfield 34, 3) := by decide +kernel
theorem dX11_costs_26 : decode cX11_costs 26 = .ok (.iload_n 1, 1) := by decide +kernel
theorem dX11_costs_27 : decode cX11_costs 27 = .ok (.iload_n 2, 1) := by decide +kernel
theorem dX11_costs_28 : decode cX11_costs 28 = .ok (.invokevirtual 318, 3) := by decide +kernel
theorem dX11_costs_31 : decode cX11_costs 31 = .ok (.ifCond .ne 7, 3) := by decide +kernel
theorem dX11_costs_34 : decode cX11_costs 34 = .ok (.ldc2_w 322, 3) := by decide +kernel
theorem dX11_costs_37 : decode cX11_costs 37 = .ok (.lreturn, 1) := by decide +kernel
theorem dX11_costs_38 : decode cX11_costs 38 = .ok (.aload_n 0, 1) := by decide +kernel
theorem dX11_costs_39 : decode cX11_costs 39 = .ok (.getfield 89, 3) := by decide +kernel
theorem dX11_costs_42 : decode cX11_costs 42 = .ok (.iload_n 1, 1) := by decide +kernel
theorem dX11_costs_43 : decode cX11_costs 43 = .ok (.aload_n 0, 1) := by decide +kernel
theorem dX11_costs_44 : decode cX11_costs 44 = .ok (.getfield 34, 3) := by decide +kernel
theorem dX11_costs_47 : decode cX11_costs 47 = .ok (.getfield 146, 3) := by decide +kernel
theorem dX11_costs_50 : decode cX11_costs 50 = .ok (.iload_n 1, 1) := by decide +kernel
theorem dX11_costs_51 : decode cX11_costs 51 = .ok (.iaload, 1) := by decide +kernel
theorem dX11_costs_52 : decode cX11_costs 52 = .ok (.invokevirtual 302, 3) := by decide +kernel
theorem dX11_costs_55 : decode cX11_costs 55 = .ok (.aload_n 0, 1) := by decide +kernel
theorem dX11_costs_56 : decode cX11_costs 56 = .ok (.getfield 89, 3) := by decide +kernel
theorem dX11_costs_59 : decode cX11_costs 59 = .ok (.iload_n 1, 1) := by decide +kernel
theorem dX11_costs_60 : decode cX11_costs 60 = .ok (.aload_n 0, 1) := by decide +kernel
theorem dX11_costs_61 : decode cX11_costs 61 = .ok (.getfield 34, 3) := by decide +kernel
theorem dX11_costs_64 : decode cX11_costs 64 = .ok (.getfield 146, 3) := by decide +kernel
theorem dX11_costs_67 : decode cX11_costs 67 = .ok (.iload_n 1, 1) := by decide +kernel
theorem dX11_costs_68 : decode cX11_costs 68 = .ok (.iaload, 1) := by decide +kernel
theorem dX11_costs_69 : decode cX11_costs 69 = .ok (.iconst 1, 1) := by decide +kernel
theorem dX11_costs_70 : decode cX11_costs 70 = .ok (.iload_n 2, 1) := by decide +kernel
theorem dX11_costs_71 : decode cX11_costs 71 = .ok (.ishl, 1) := by decide +kernel
theorem dX11_costs_72 : decode cX11_costs 72 = .ok (.ixor, 1) := by decide +kernel
theorem dX11_costs_73 : decode cX11_costs 73 = .ok (.invokevirtual 302, 3) := by decide +kernel
theorem dX11_costs_76 : decode cX11_costs 76 = .ok (.lsub, 1) := by decide +kernel
theorem dX11_costs_77 : decode cX11_costs 77 = .ok (.lreturn, 1) := by decide +kernel
theorem dX11_worstLight_0 : decode cX11_worstLight 0 = .ok (.aload_n 0, 1) := by decide +kernel
theorem dX11_worstLight_1 : decode cX11_worstLight 1 = .ok (.getfield 27, 3) := by decide +kernel
theorem dX11_worstLight_4 : decode cX11_worstLight 4 = .ok (.iload_n 1, 1) := by decide +kernel
theorem dX11_worstLight_5 : decode cX11_worstLight 5 = .ok (.invokevirtual 135, 3) := by decide +kernel
theorem dX11_worstLight_8 : decode cX11_worstLight 8 = .ok (.ifCond .eq 23, 3) := by decide +kernel
theorem dX11_worstLight_11 : decode cX11_worstLight 11 = .ok (.aload_n 0, 1) := by decide +kernel
theorem dX11_worstLight_12 : decode cX11_worstLight 12 = .ok (.getfield 89, 3) := by decide +kernel
theorem dX11_worstLight_15 : decode cX11_worstLight 15 = .ok (.iload_n 1, 1) := by decide +kernel
theorem dX11_worstLight_16 : decode cX11_worstLight 16 = .ok (.aload_n 0, 1) := by decide +kernel
theorem dX11_worstLight_17 : decode cX11_worstLight 17 = .ok (.getfield 34, 3) := by decide +kernel
theorem dX11_worstLight_20 : decode cX11_worstLight 20 = .ok (.getfield 146, 3) := by decide +kernel
theorem dX11_worstLight_23 : decode cX11_worstLight 23 = .ok (.iload_n 1, 1) := by decide +kernel
theorem dX11_worstLight_24 : decode cX11_worstLight 24 = .ok (.iaload, 1) := by decide +kernel
theorem dX11_worstLight_25 : decode cX11_worstLight 25 = .ok (.invokevirtual 324, 3) := by decide +kernel
theorem dX11_worstLight_28 : decode cX11_worstLight 28 = .ok (.goto 5, 3) := by decide +kernel
theorem dX11_worstLight_31 : decode cX11_worstLight 31 = .ok (.bipush (-2), 2) := by decide +kernel
theorem dX11_worstLight_33 : decode cX11_worstLight 33 = .ok (.ireturn, 1) := by decide +kernel
theorem dX11_bestLight_0 : decode cX11_bestLight 0 = .ok (.aload_n 0, 1) := by decide +kernel
theorem dX11_bestLight_1 : decode cX11_bestLight 1 = .ok (.getfield 27, 3) := by decide +kernel
theorem dX11_bestLight_4 : decode cX11_bestLight 4 = .ok (.iload_n 1, 1) := by decide +kernel
theorem dX11_bestLight_5 : decode cX11_bestLight 5 = .ok (.invokevirtual 135, 3) := by decide +kernel
theorem dX11_bestLight_8 : decode cX11_bestLight 8 = .ok (.ifCond .eq 22, 3) := by decide +kernel
theorem dX11_bestLight_11 : decode cX11_bestLight 11 = .ok (.aload_n 0, 1) := by decide +kernel
theorem dX11_bestLight_12 : decode cX11_bestLight 12 = .ok (.getfield 89, 3) := by decide +kernel
theorem dX11_bestLight_15 : decode cX11_bestLight 15 = .ok (.iload_n 1, 1) := by decide +kernel
theorem dX11_bestLight_16 : decode cX11_bestLight 16 = .ok (.aload_n 0, 1) := by decide +kernel
theorem dX11_bestLight_17 : decode cX11_bestLight 17 = .ok (.getfield 89, 3) := by decide +kernel
theorem dX11_bestLight_20 : decode cX11_bestLight 20 = .ok (.iload_n 1, 1) := by decide +kernel
theorem dX11_bestLight_21 : decode cX11_bestLight 21 = .ok (.invokevirtual 327, 3) := by decide +kernel
theorem dX11_bestLight_24 : decode cX11_bestLight 24 = .ok (.invokevirtual 324, 3) := by decide +kernel
theorem dX11_bestLight_27 : decode cX11_bestLight 27 = .ok (.goto 5, 3) := by decide +kernel
theorem dX11_bestLight_30 : decode cX11_bestLight 30 = .ok (.bipush (-2), 2) := by decide +kernel
theorem dX11_bestLight_32 : decode cX11_bestLight 32 = .ok (.ireturn, 1) := by decide +kernel
theorem dX11_boy_0 : decode cX11_boy 0 = .ok (.aload_n 0, 1) := by decide +kernel
theorem dX11_boy_1 : decode cX11_boy 1 = .ok (.getfield 27, 3) := by decide +kernel
theorem dX11_boy_4 : decode cX11_boy 4 = .ok (.iload_n 1, 1) := by decide +kernel
theorem dX11_boy_5 : decode cX11_boy 5 = .ok (.invokevirtual 135, 3) := by decide +kernel
theorem dX11_boy_8 : decode cX11_boy 8 = .ok (.ifCond .eq 12, 3) := by decide +kernel
theorem dX11_boy_11 : decode cX11_boy 11 = .ok (.iload_n 3, 1) := by decide +kernel
theorem dX11_boy_12 : decode cX11_boy 12 = .ok (.ifCond .lt 8, 3) := by decide +kernel
theorem dX11_boy_15 : decode cX11_boy 15 = .ok (.iload_n 3, 1) := by decide +kernel
theorem dX11_boy_16 : decode cX11_boy 16 = .ok (.iconst 1, 1) := by decide +kernel
theorem dX11_boy_17 : decode cX11_boy 17 = .ok (.if_icmp .le 7, 3) := by decide +kernel
theorem dX11_boy_20 : decode cX11_boy 20 = .ok (.ldc2_w 322, 3) := by decide +kernel
theorem dX11_boy_23 : decode cX11_boy 23 = .ok (.lreturn, 1) := by decide +kernel
theorem dX11_boy_24 : decode cX11_boy 24 = .ok (.iload_n 2, 1) := by decide +kernel
theorem dX11_boy_25 : decode cX11_boy 25 = .ok (.ifCond .lt 18, 3) := by decide +kernel
theorem dX11_boy_28 : decode cX11_boy 28 = .ok (.iload_n 2, 1) := by decide +kernel
theorem dX11_boy_29 : decode cX11_boy 29 = .ok (.aload_n 0, 1) := by decide +kernel
theorem dX11_boy_30 : decode cX11_boy 30 = .ok (.getfield 89, 3) := by decide +kernel
theorem dX11_boy_33 : decode cX11_boy 33 = .ok (.iload_n 1, 1) := by decide +kernel
theorem dX11_boy_34 : decode cX11_boy 34 = .ok (.invokevirtual 327, 3) := by decide +kernel
theorem dX11_boy_37 : decode cX11_boy 37 = .ok (.invokestatic 214, 3) := by decide +kernel
theorem dX11_boy_40 : decode cX11_boy 40 = .ok (.if_icmp .le 7, 3) := by decide +kernel
theorem dX11_boy_43 : decode cX11_boy 43 = .ok (.ldc2_w 322, 3) := by decide +kernel
theorem dX11_boy_46 : decode cX11_boy 46 = .ok (.lreturn, 1) := by decide +kernel
theorem dX11_boy_47 : decode cX11_boy 47 = .ok (.aload_n 0, 1) := by decide +kernel
theorem dX11_boy_48 : decode cX11_boy 48 = .ok (.getfield 89, 3) := by decide +kernel
theorem dX11_boy_51 : decode cX11_boy 51 = .ok (.iload_n 1, 1) := by decide +kernel
theorem dX11_boy_52 : decode cX11_boy 52 = .ok (.iload_n 2, 1) := by decide +kernel
theorem dX11_boy_53 : decode cX11_boy 53 = .ok (.invokevirtual 330, 3) := by decide +kernel
theorem dX11_boy_56 : decode cX11_boy 56 = .ok (.iload_n 3, 1) := by decide +kernel
theorem dX11_boy_57 : decode cX11_boy 57 = .ok (.ifCond .ne 13, 3) := by decide +kernel
theorem dX11_boy_60 : decode cX11_boy 60 = .ok (.aload_n 0, 1) := by decide +kernel
theorem dX11_boy_61 : decode cX11_boy 61 = .ok (.getfield 89, 3) := by decide +kernel
theorem dX11_boy_64 : decode cX11_boy 64 = .ok (.getfield 333, 3) := by decide +kernel
theorem dX11_boy_67 : decode cX11_boy 67 = .ok (.goto 10, 3) := by decide +kernel
theorem dX11_boy_70 : decode cX11_boy 70 = .ok (.aload_n 0, 1) := by decide +kernel
theorem dX11_boy_71 : decode cX11_boy 71 = .ok (.getfield 89, 3) := by decide +kernel
theorem dX11_boy_74 : decode cX11_boy 74 = .ok (.getfield 337, 3) := by decide +kernel
theorem dX11_boy_77 : decode cX11_boy 77 = .ok (.lreturn, 1) := by decide +kernel
theorem dX11_parting_0 : decode cX11_parting 0 = .ok (.aload_n 0, 1) := by decide +kernel
theorem dX11_parting_1 : decode cX11_parting 1 = .ok (.getfield 27, 3) := by decide +kernel
theorem dX11_parting_4 : decode cX11_parting 4 = .ok (.iload_n 1, 1) := by decide +kernel
theorem dX11_parting_5 : decode cX11_parting 5 = .ok (.invokevirtual 135, 3) := by decide +kernel
theorem dX11_parting_8 : decode cX11_parting 8 = .ok (.ifCond .eq 28, 3) := by decide +kernel
theorem dX11_parting_11 : decode cX11_parting 11 = .ok (.aload_n 0, 1) := by decide +kernel
theorem dX11_parting_12 : decode cX11_parting 12 = .ok (.getfield 27, 3) := by decide +kernel
theorem dX11_parting_15 : decode cX11_parting 15 = .ok (.iload_n 2, 1) := by decide +kernel
theorem dX11_parting_16 : decode cX11_parting 16 = .ok (.invokevirtual 135, 3) := by decide +kernel
theorem dX11_parting_19 : decode cX11_parting 19 = .ok (.ifCond .eq 17, 3) := by decide +kernel
theorem dX11_parting_22 : decode cX11_parting 22 = .ok (.iload_n 1, 1) := by decide +kernel
theorem dX11_parting_23 : decode cX11_parting 23 = .ok (.iload_n 2, 1) := by decide +kernel
theorem dX11_parting_24 : decode cX11_parting 24 = .ok (.if_icmp .eq 12, 3) := by decide +kernel
theorem dX11_parting_27 : decode cX11_parting 27 = .ok (.iload_n 3, 1) := by decide +kernel
theorem dX11_parting_28 : decode cX11_parting 28 = .ok (.ifCond .lt 8, 3) := by decide +kernel
theorem dX11_parting_31 : decode cX11_parting 31 = .ok (.iload_n 3, 1) := by decide +kernel
theorem dX11_parting_32 : decode cX11_parting 32 = .ok (.iconst 1, 1) := by decide +kernel
theorem dX11_parting_33 : decode cX11_parting 33 = .ok (.if_icmp .le 7, 3) := by decide +kernel
theorem dX11_parting_36 : decode cX11_parting 36 = .ok (.ldc2_w 306, 3) := by decide +kernel
theorem dX11_parting_39 : decode cX11_parting 39 = .ok (.lreturn, 1) := by decide +kernel
theorem dX11_parting_40 : decode cX11_parting 40 = .ok (.aload_n 0, 1) := by decide +kernel
theorem dX11_parting_41 : decode cX11_parting 41 = .ok (.getfield 34, 3) := by decide +kernel
theorem dX11_parting_44 : decode cX11_parting 44 = .ok (.getfield 139, 3) := by decide +kernel
theorem dX11_parting_47 : decode cX11_parting 47 = .ok (.iload_n 1, 1) := by decide +kernel
theorem dX11_parting_48 : decode cX11_parting 48 = .ok (.iaload, 1) := by decide +kernel
theorem dX11_parting_49 : decode cX11_parting 49 = .ok (.aload_n 0, 1) := by decide +kernel
theorem dX11_parting_50 : decode cX11_parting 50 = .ok (.getfield 34, 3) := by decide +kernel
theorem dX11_parting_53 : decode cX11_parting 53 = .ok (.getfield 139, 3) := by decide +kernel
theorem dX11_parting_56 : decode cX11_parting 56 = .ok (.iload_n 2, 1) := by decide +kernel
theorem dX11_parting_57 : decode cX11_parting 57 = .ok (.iaload, 1) := by decide +kernel
theorem dX11_parting_58 : decode cX11_parting 58 = .ok (.if_icmp .eq 7, 3) := by decide +kernel
theorem dX11_parting_61 : decode cX11_parting 61 = .ok (.ldc2_w 340, 3) := by decide +kernel
theorem dX11_parting_64 : decode cX11_parting 64 = .ok (.lreturn, 1) := by decide +kernel
theorem dX11_parting_65 : decode cX11_parting 65 = .ok (.aload_n 0, 1) := by decide +kernel
theorem dX11_parting_66 : decode cX11_parting 66 = .ok (.getfield 96, 3) := by decide +kernel
theorem dX11_parting_69 : decode cX11_parting 69 = .ok (.iload_n 1, 1) := by decide +kernel
theorem dX11_parting_70 : decode cX11_parting 70 = .ok (.iload_n 2, 1) := by decide +kernel
theorem dX11_parting_71 : decode cX11_parting 71 = .ok (.invokevirtual 342, 3) := by decide +kernel
theorem dX11_parting_74 : decode cX11_parting 74 = .ok (.iload_n 3, 1) := by decide +kernel
theorem dX11_parting_75 : decode cX11_parting 75 = .ok (.ifCond .ne 13, 3) := by decide +kernel
theorem dX11_parting_78 : decode cX11_parting 78 = .ok (.aload_n 0, 1) := by decide +kernel
theorem dX11_parting_79 : decode cX11_parting 79 = .ok (.getfield 96, 3) := by decide +kernel
theorem dX11_parting_82 : decode cX11_parting 82 = .ok (.getfield 345, 3) := by decide +kernel
theorem dX11_parting_85 : decode cX11_parting 85 = .ok (.goto 11, 3) := by decide +kernel
theorem dX11_parting_88 : decode cX11_parting 88 = .ok (.aload_n 0, 1) := by decide +kernel
theorem dX11_parting_89 : decode cX11_parting 89 = .ok (.getfield 96, 3) := by decide +kernel
theorem dX11_parting_92 : decode cX11_parting 92 = .ok (.getfield 348, 3) := by decide +kernel
theorem dX11_parting_95 : decode cX11_parting 95 = .ok (.i2l, 1) := by decide +kernel
theorem dX11_parting_96 : decode cX11_parting 96 = .ok (.lreturn, 1) := by decide +kernel
theorem dX11_rest_0 : decode cX11_rest 0 = .ok (.iconst 0, 1) := by decide +kernel
theorem dX11_rest_1 : decode cX11_rest 1 = .ok (.istore_n 1, 1) := by decide +kernel
theorem dX11_rest_2 : decode cX11_rest 2 = .ok (.iconst 1, 1) := by decide +kernel
theorem dX11_rest_3 : decode cX11_rest 3 = .ok (.istore_n 2, 1) := by decide +kernel
theorem dX11_rest_4 : decode cX11_rest 4 = .ok (.iload_n 2, 1) := by decide +kernel
theorem dX11_rest_5 : decode cX11_rest 5 = .ok (.aload_n 0, 1) := by decide +kernel
theorem dX11_rest_6 : decode cX11_rest 6 = .ok (.getfield 27, 3) := by decide +kernel
theorem dX11_rest_9 : decode cX11_rest 9 = .ok (.getfield 351, 3) := by decide +kernel
theorem dX11_rest_12 : decode cX11_rest 12 = .ok (.if_icmp .ge 30, 3) := by decide +kernel
theorem dX11_rest_15 : decode cX11_rest 15 = .ok (.aload_n 0, 1) := by decide +kernel
theorem dX11_rest_16 : decode cX11_rest 16 = .ok (.getfield 27, 3) := by decide +kernel
theorem dX11_rest_19 : decode cX11_rest 19 = .ok (.iload_n 2, 1) := by decide +kernel
theorem dX11_rest_20 : decode cX11_rest 20 = .ok (.invokevirtual 354, 3) := by decide +kernel
theorem dX11_rest_23 : decode cX11_rest 23 = .ok (.aload_n 0, 1) := by decide +kernel
theorem dX11_rest_24 : decode cX11_rest 24 = .ok (.getfield 27, 3) := by decide +kernel
theorem dX11_rest_27 : decode cX11_rest 27 = .ok (.iload_n 1, 1) := by decide +kernel
theorem dX11_rest_28 : decode cX11_rest 28 = .ok (.invokevirtual 354, 3) := by decide +kernel
theorem dX11_rest_31 : decode cX11_rest 31 = .ok (.if_icmp .ge 5, 3) := by decide +kernel
theorem dX11_rest_34 : decode cX11_rest 34 = .ok (.iload_n 2, 1) := by decide +kernel
theorem dX11_rest_35 : decode cX11_rest 35 = .ok (.istore_n 1, 1) := by decide +kernel
theorem dX11_rest_36 : decode cX11_rest 36 = .ok (.iinc 2 1, 3) := by decide +kernel
theorem dX11_rest_39 : decode cX11_rest 39 = .ok (.goto (-35), 3) := by decide +kernel
theorem dX11_rest_42 : decode cX11_rest 42 = .ok (.iload_n 1, 1) := by decide +kernel
theorem dX11_rest_43 : decode cX11_rest 43 = .ok (.ireturn, 1) := by decide +kernel
theorem dX11_away_0 : decode cX11_away 0 = .ok (.aload_n 0, 1) := by decide +kernel
theorem dX11_away_1 : decode cX11_away 1 = .ok (.getfield 27, 3) := by decide +kernel
theorem dX11_away_4 : decode cX11_away 4 = .ok (.iload_n 1, 1) := by decide +kernel
theorem dX11_away_5 : decode cX11_away 5 = .ok (.invokevirtual 191, 3) := by decide +kernel
theorem dX11_away_8 : decode cX11_away 8 = .ok (.ifCond .eq 14, 3) := by decide +kernel
theorem dX11_away_11 : decode cX11_away 11 = .ok (.aload_n 0, 1) := by decide +kernel
theorem dX11_away_12 : decode cX11_away 12 = .ok (.getfield 27, 3) := by decide +kernel
theorem dX11_away_15 : decode cX11_away 15 = .ok (.iload_n 1, 1) := by decide +kernel
theorem dX11_away_16 : decode cX11_away 16 = .ok (.invokevirtual 354, 3) := by decide +kernel
theorem dX11_away_19 : decode cX11_away 19 = .ok (.goto 5, 3) := by decide +kernel
theorem dX11_away_22 : decode cX11_away 22 = .ok (.bipush (-2), 2) := by decide +kernel
theorem dX11_away_24 : decode cX11_away 24 = .ok (.ireturn, 1) := by decide +kernel
theorem dX11_nearest_0 : decode cX11_nearest 0 = .ok (.aload_n 0, 1) := by decide +kernel
theorem dX11_nearest_1 : decode cX11_nearest 1 = .ok (.getfield 27, 3) := by decide +kernel
theorem dX11_nearest_4 : decode cX11_nearest 4 = .ok (.iload_n 1, 1) := by decide +kernel
theorem dX11_nearest_5 : decode cX11_nearest 5 = .ok (.invokevirtual 191, 3) := by decide +kernel
theorem dX11_nearest_8 : decode cX11_nearest 8 = .ok (.ifCond .ne 6, 3) := by decide +kernel
theorem dX11_nearest_11 : decode cX11_nearest 11 = .ok (.bipush (-2), 2) := by decide +kernel
theorem dX11_nearest_13 : decode cX11_nearest 13 = .ok (.ireturn, 1) := by decide +kernel
theorem dX11_nearest_14 : decode cX11_nearest 14 = .ok (.iconst (-1), 1) := by decide +kernel
theorem dX11_nearest_15 : decode cX11_nearest 15 = .ok (.istore_n 2, 1) := by decide +kernel
theorem dX11_nearest_16 : decode cX11_nearest 16 = .ok (.bipush 12, 2) := by decide +kernel
theorem dX11_nearest_18 : decode cX11_nearest 18 = .ok (.istore_n 3, 1) := by decide +kernel
theorem dX11_nearest_19 : decode cX11_nearest 19 = .ok (.iconst 0, 1) := by decide +kernel
theorem dX11_nearest_20 : decode cX11_nearest 20 = .ok (.istore 4, 2) := by decide +kernel
theorem dX11_nearest_22 : decode cX11_nearest 22 = .ok (.iload 4, 2) := by decide +kernel
theorem dX11_nearest_24 : decode cX11_nearest 24 = .ok (.aload_n 0, 1) := by decide +kernel
theorem dX11_nearest_25 : decode cX11_nearest 25 = .ok (.getfield 27, 3) := by decide +kernel
theorem dX11_nearest_28 : decode cX11_nearest 28 = .ok (.getfield 262, 3) := by decide +kernel
theorem dX11_nearest_31 : decode cX11_nearest 31 = .ok (.if_icmp .ge 38, 3) := by decide +kernel
theorem dX11_nearest_34 : decode cX11_nearest 34 = .ok (.aload_n 0, 1) := by decide +kernel
theorem dX11_nearest_35 : decode cX11_nearest 35 = .ok (.getfield 34, 3) := by decide +kernel
theorem dX11_nearest_38 : decode cX11_nearest 38 = .ok (.getfield 139, 3) := by decide +kernel
theorem dX11_nearest_41 : decode cX11_nearest 41 = .ok (.iload 4, 2) := by decide +kernel
theorem dX11_nearest_43 : decode cX11_nearest 43 = .ok (.iaload, 1) := by decide +kernel
theorem dX11_nearest_44 : decode cX11_nearest 44 = .ok (.iload_n 1, 1) := by decide +kernel
theorem dX11_nearest_45 : decode cX11_nearest 45 = .ok (.isub, 1) := by decide +kernel
theorem dX11_nearest_46 : decode cX11_nearest 46 = .ok (.invokestatic 357, 3) := by decide +kernel
theorem dX11_nearest_49 : decode cX11_nearest 49 = .ok (.istore 5, 2) := by decide +kernel
theorem dX11_nearest_51 : decode cX11_nearest 51 = .ok (.iload 5, 2) := by decide +kernel
theorem dX11_nearest_53 : decode cX11_nearest 53 = .ok (.iload_n 3, 1) := by decide +kernel
theorem dX11_nearest_54 : decode cX11_nearest 54 = .ok (.if_icmp .ge 9, 3) := by decide +kernel
theorem dX11_nearest_57 : decode cX11_nearest 57 = .ok (.iload 5, 2) := by decide +kernel
theorem dX11_nearest_59 : decode cX11_nearest 59 = .ok (.istore_n 3, 1) := by decide +kernel
theorem dX11_nearest_60 : decode cX11_nearest 60 = .ok (.iload 4, 2) := by decide +kernel
theorem dX11_nearest_62 : decode cX11_nearest 62 = .ok (.istore_n 2, 1) := by decide +kernel
theorem dX11_nearest_63 : decode cX11_nearest 63 = .ok (.iinc 4 1, 3) := by decide +kernel
theorem dX11_nearest_66 : decode cX11_nearest 66 = .ok (.goto (-44), 3) := by decide +kernel
theorem dX11_nearest_69 : decode cX11_nearest 69 = .ok (.iload_n 2, 1) := by decide +kernel
theorem dX11_nearest_70 : decode cX11_nearest 70 = .ok (.ireturn, 1) := by decide +kernel
theorem dX11_seen_0 : decode cX11_seen 0 = .ok (.aload_n 0, 1) := by decide +kernel
theorem dX11_seen_1 : decode cX11_seen 1 = .ok (.iload_n 1, 1) := by decide +kernel
theorem dX11_seen_2 : decode cX11_seen 2 = .ok (.iload_n 2, 1) := by decide +kernel
theorem dX11_seen_3 : decode cX11_seen 3 = .ok (.invokevirtual 360, 3) := by decide +kernel
theorem dX11_seen_6 : decode cX11_seen 6 = .ok (.istore_n 3, 1) := by decide +kernel
theorem dX11_seen_7 : decode cX11_seen 7 = .ok (.iload_n 3, 1) := by decide +kernel
theorem dX11_seen_8 : decode cX11_seen 8 = .ok (.ifCond .eq 7, 3) := by decide +kernel
theorem dX11_seen_11 : decode cX11_seen 11 = .ok (.iload_n 3, 1) := by decide +kernel
theorem dX11_seen_12 : decode cX11_seen 12 = .ok (.goto 10, 3) := by decide +kernel
theorem dX11_seen_15 : decode cX11_seen 15 = .ok (.aload_n 0, 1) := by decide +kernel
theorem dX11_seen_16 : decode cX11_seen 16 = .ok (.getfield 103, 3) := by decide +kernel
theorem dX11_seen_19 : decode cX11_seen 19 = .ok (.getfield 363, 3) := by decide +kernel
theorem dX11_seen_22 : decode cX11_seen 22 = .ok (.ireturn, 1) := by decide +kernel
theorem dX11_sure_0 : decode cX11_sure 0 = .ok (.aload_n 0, 1) := by decide +kernel
theorem dX11_sure_1 : decode cX11_sure 1 = .ok (.iload_n 1, 1) := by decide +kernel
theorem dX11_sure_2 : decode cX11_sure 2 = .ok (.iload_n 2, 1) := by decide +kernel
theorem dX11_sure_3 : decode cX11_sure 3 = .ok (.invokevirtual 360, 3) := by decide +kernel
theorem dX11_sure_6 : decode cX11_sure 6 = .ok (.istore_n 3, 1) := by decide +kernel
theorem dX11_sure_7 : decode cX11_sure 7 = .ok (.iload_n 3, 1) := by decide +kernel
theorem dX11_sure_8 : decode cX11_sure 8 = .ok (.ifCond .eq 7, 3) := by decide +kernel
theorem dX11_sure_11 : decode cX11_sure 11 = .ok (.iload_n 3, 1) := by decide +kernel
theorem dX11_sure_12 : decode cX11_sure 12 = .ok (.goto 10, 3) := by decide +kernel
theorem dX11_sure_15 : decode cX11_sure 15 = .ok (.aload_n 0, 1) := by decide +kernel
theorem dX11_sure_16 : decode cX11_sure 16 = .ok (.getfield 103, 3) := by decide +kernel
theorem dX11_sure_19 : decode cX11_sure 19 = .ok (.invokevirtual 366, 3) := by decide +kernel
theorem dX11_sure_22 : decode cX11_sure 22 = .ok (.ireturn, 1) := by decide +kernel
theorem dX11_look_0 : decode cX11_look 0 = .ok (.aload_n 0, 1) := by decide +kernel
theorem dX11_look_1 : decode cX11_look 1 = .ok (.iload_n 1, 1) := by decide +kernel
theorem dX11_look_2 : decode cX11_look 2 = .ok (.iload_n 2, 1) := by decide +kernel
theorem dX11_look_3 : decode cX11_look 3 = .ok (.invokevirtual 360, 3) := by decide +kernel
theorem dX11_look_6 : decode cX11_look 6 = .ok (.istore_n 3, 1) := by decide +kernel
theorem dX11_look_7 : decode cX11_look 7 = .ok (.iload_n 3, 1) := by decide +kernel
theorem dX11_look_8 : decode cX11_look 8 = .ok (.ifCond .eq 7, 3) := by decide +kernel
theorem dX11_look_11 : decode cX11_look 11 = .ok (.iload_n 3, 1) := by decide +kernel
theorem dX11_look_12 : decode cX11_look 12 = .ok (.goto 11, 3) := by decide +kernel
theorem dX11_look_15 : decode cX11_look 15 = .ok (.aload_n 0, 1) := by decide +kernel
theorem dX11_look_16 : decode cX11_look 16 = .ok (.getfield 103, 3) := by decide +kernel
theorem dX11_look_19 : decode cX11_look 19 = .ok (.iload_n 2, 1) := by decide +kernel
theorem dX11_look_20 : decode cX11_look 20 = .ok (.invokevirtual 369, 3) := by decide +kernel
theorem dX11_look_23 : decode cX11_look 23 = .ok (.ireturn, 1) := by decide +kernel
theorem dX11_odd_0 : decode cX11_odd 0 = .ok (.aload_n 0, 1) := by decide +kernel
theorem dX11_odd_1 : decode cX11_odd 1 = .ok (.iload_n 1, 1) := by decide +kernel
theorem dX11_odd_2 : decode cX11_odd 2 = .ok (.iload_n 2, 1) := by decide +kernel
theorem dX11_odd_3 : decode cX11_odd 3 = .ok (.invokevirtual 360, 3) := by decide +kernel
theorem dX11_odd_6 : decode cX11_odd 6 = .ok (.istore_n 3, 1) := by decide +kernel
theorem dX11_odd_7 : decode cX11_odd 7 = .ok (.iload_n 3, 1) := by decide +kernel
theorem dX11_odd_8 : decode cX11_odd 8 = .ok (.ifCond .eq 5, 3) := by decide +kernel
theorem dX11_odd_11 : decode cX11_odd 11 = .ok (.iload_n 3, 1) := by decide +kernel
theorem dX11_odd_12 : decode cX11_odd 12 = .ok (.ireturn, 1) := by decide +kernel
theorem dX11_odd_13 : decode cX11_odd 13 = .ok (.aload_n 0, 1) := by decide +kernel
theorem dX11_odd_14 : decode cX11_odd 14 = .ok (.getfield 103, 3) := by decide +kernel
theorem dX11_odd_17 : decode cX11_odd 17 = .ok (.getfield 363, 3) := by decide +kernel
theorem dX11_odd_20 : decode cX11_odd 20 = .ok (.ifCond .le 7, 3) := by decide +kernel
theorem dX11_odd_23 : decode cX11_odd 23 = .ok (.iconst (-1), 1) := by decide +kernel
theorem dX11_odd_24 : decode cX11_odd 24 = .ok (.goto 10, 3) := by decide +kernel
theorem dX11_odd_27 : decode cX11_odd 27 = .ok (.aload_n 0, 1) := by decide +kernel
theorem dX11_odd_28 : decode cX11_odd 28 = .ok (.getfield 103, 3) := by decide +kernel
theorem dX11_odd_31 : decode cX11_odd 31 = .ok (.getfield 372, 3) := by decide +kernel
theorem dX11_odd_34 : decode cX11_odd 34 = .ok (.ireturn, 1) := by decide +kernel
theorem dX11_numbers_0 : decode cX11_numbers 0 = .ok (.aload_n 0, 1) := by decide +kernel
theorem dX11_numbers_1 : decode cX11_numbers 1 = .ok (.iload_n 1, 1) := by decide +kernel
theorem dX11_numbers_2 : decode cX11_numbers 2 = .ok (.invokevirtual 241, 3) := by decide +kernel
theorem dX11_numbers_5 : decode cX11_numbers 5 = .ok (.ifCond .eq 12, 3) := by decide +kernel
theorem dX11_numbers_8 : decode cX11_numbers 8 = .ok (.iload_n 2, 1) := by decide +kernel
theorem dX11_numbers_9 : decode cX11_numbers 9 = .ok (.ifCond .lt 8, 3) := by decide +kernel
theorem dX11_numbers_12 : decode cX11_numbers 12 = .ok (.iload_n 2, 1) := by decide +kernel
theorem dX11_numbers_13 : decode cX11_numbers 13 = .ok (.iconst 4, 1) := by decide +kernel
theorem dX11_numbers_14 : decode cX11_numbers 14 = .ok (.if_icmp .lt 6, 3) := by decide +kernel
theorem dX11_numbers_17 : decode cX11_numbers 17 = .ok (.bipush (-2), 2) := by decide +kernel
theorem dX11_numbers_19 : decode cX11_numbers 19 = .ok (.ireturn, 1) := by decide +kernel
theorem dX11_numbers_20 : decode cX11_numbers 20 = .ok (.iload_n 3, 1) := by decide +kernel
theorem dX11_numbers_21 : decode cX11_numbers 21 = .ok (.ifCond .lt 9, 3) := by decide +kernel
theorem dX11_numbers_24 : decode cX11_numbers 24 = .ok (.iload_n 3, 1) := by decide +kernel
theorem dX11_numbers_25 : decode cX11_numbers 25 = .ok (.bipush 40, 2) := by decide +kernel
theorem dX11_numbers_27 : decode cX11_numbers 27 = .ok (.if_icmp .le 6, 3) := by decide +kernel
theorem dX11_numbers_30 : decode cX11_numbers 30 = .ok (.bipush (-3), 2) := by decide +kernel
theorem dX11_numbers_32 : decode cX11_numbers 32 = .ok (.ireturn, 1) := by decide +kernel
theorem dX11_numbers_33 : decode cX11_numbers 33 = .ok (.aload_n 0, 1) := by decide +kernel
theorem dX11_numbers_34 : decode cX11_numbers 34 = .ok (.getfield 53, 3) := by decide +kernel
theorem dX11_numbers_37 : decode cX11_numbers 37 = .ok (.iload_n 1, 1) := by decide +kernel
theorem dX11_numbers_38 : decode cX11_numbers 38 = .ok (.aaload, 1) := by decide +kernel
theorem dX11_numbers_39 : decode cX11_numbers 39 = .ok (.iload_n 2, 1) := by decide +kernel
theorem dX11_numbers_40 : decode cX11_numbers 40 = .ok (.iload_n 3, 1) := by decide +kernel
theorem dX11_numbers_41 : decode cX11_numbers 41 = .ok (.invokevirtual 375, 3) := by decide +kernel
theorem dX11_numbers_44 : decode cX11_numbers 44 = .ok (.iconst 0, 1) := by decide +kernel
theorem dX11_numbers_45 : decode cX11_numbers 45 = .ok (.ireturn, 1) := by decide +kernel
theorem dX11_write_0 : decode cX11_write 0 = .ok (.aload_n 0, 1) := by decide +kernel
theorem dX11_write_1 : decode cX11_write 1 = .ok (.iload_n 1, 1) := by decide +kernel
theorem dX11_write_2 : decode cX11_write 2 = .ok (.invokevirtual 241, 3) := by decide +kernel
theorem dX11_write_5 : decode cX11_write 5 = .ok (.ifCond .ne 7, 3) := by decide +kernel
theorem dX11_write_8 : decode cX11_write 8 = .ok (.ldc2_w 306, 3) := by decide +kernel
theorem dX11_write_11 : decode cX11_write 11 = .ok (.lreturn, 1) := by decide +kernel
theorem dX11_write_12 : decode cX11_write 12 = .ok (.aload_n 0, 1) := by decide +kernel
theorem dX11_write_13 : decode cX11_write 13 = .ok (.getfield 53, 3) := by decide +kernel
theorem dX11_write_16 : decode cX11_write 16 = .ok (.iload_n 1, 1) := by decide +kernel
theorem dX11_write_17 : decode cX11_write 17 = .ok (.aaload, 1) := by decide +kernel
theorem dX11_write_18 : decode cX11_write 18 = .ok (.invokevirtual 244, 3) := by decide +kernel
theorem dX11_write_21 : decode cX11_write 21 = .ok (.ifCond .eq 7, 3) := by decide +kernel
theorem dX11_write_24 : decode cX11_write 24 = .ok (.ldc2_w 378, 3) := by decide +kernel
theorem dX11_write_27 : decode cX11_write 27 = .ok (.lreturn, 1) := by decide +kernel
theorem dX11_write_28 : decode cX11_write 28 = .ok (.aload_n 0, 1) := by decide +kernel
theorem dX11_write_29 : decode cX11_write 29 = .ok (.getfield 53, 3) := by decide +kernel
theorem dX11_write_32 : decode cX11_write 32 = .ok (.iload_n 1, 1) := by decide +kernel
theorem dX11_write_33 : decode cX11_write 33 = .ok (.aaload, 1) := by decide +kernel
theorem dX11_write_34 : decode cX11_write 34 = .ok (.iload_n 2, 1) := by decide +kernel
theorem dX11_write_35 : decode cX11_write 35 = .ok (.invokevirtual 380, 3) := by decide +kernel
theorem dX11_write_38 : decode cX11_write 38 = .ok (.ifCond .ne 7, 3) := by decide +kernel
theorem dX11_write_41 : decode cX11_write 41 = .ok (.ldc2_w 383, 3) := by decide +kernel
theorem dX11_write_44 : decode cX11_write 44 = .ok (.lreturn, 1) := by decide +kernel
theorem dX11_write_45 : decode cX11_write 45 = .ok (.aload_n 0, 1) := by decide +kernel
theorem dX11_write_46 : decode cX11_write 46 = .ok (.getfield 53, 3) := by decide +kernel
theorem dX11_write_49 : decode cX11_write 49 = .ok (.iload_n 1, 1) := by decide +kernel
theorem dX11_write_50 : decode cX11_write 50 = .ok (.aaload, 1) := by decide +kernel
theorem dX11_write_51 : decode cX11_write 51 = .ok (.iload_n 2, 1) := by decide +kernel
theorem dX11_write_52 : decode cX11_write 52 = .ok (.lload_n 3, 1) := by decide +kernel
theorem dX11_write_53 : decode cX11_write 53 = .ok (.invokevirtual 385, 3) := by decide +kernel
theorem dX11_write_56 : decode cX11_write 56 = .ok (.lreturn, 1) := by decide +kernel
theorem dX11_lists_0 : decode cX11_lists 0 = .ok (.aload_n 0, 1) := by decide +kernel
theorem dX11_lists_1 : decode cX11_lists 1 = .ok (.iload_n 1, 1) := by decide +kernel
theorem dX11_lists_2 : decode cX11_lists 2 = .ok (.invokevirtual 241, 3) := by decide +kernel
theorem dX11_lists_5 : decode cX11_lists 5 = .ok (.ifCond .eq 14, 3) := by decide +kernel
theorem dX11_lists_8 : decode cX11_lists 8 = .ok (.aload_n 0, 1) := by decide +kernel
theorem dX11_lists_9 : decode cX11_lists 9 = .ok (.getfield 27, 3) := by decide +kernel
theorem dX11_lists_12 : decode cX11_lists 12 = .ok (.iload_n 2, 1) := by decide +kernel
theorem dX11_lists_13 : decode cX11_lists 13 = .ok (.invokevirtual 135, 3) := by decide +kernel
theorem dX11_lists_16 : decode cX11_lists 16 = .ok (.ifCond .ne 6, 3) := by decide +kernel
theorem dX11_lists_19 : decode cX11_lists 19 = .ok (.bipush (-2), 2) := by decide +kernel
theorem dX11_lists_21 : decode cX11_lists 21 = .ok (.ireturn, 1) := by decide +kernel
theorem dX11_lists_22 : decode cX11_lists 22 = .ok (.aload_n 0, 1) := by decide +kernel
theorem dX11_lists_23 : decode cX11_lists 23 = .ok (.getfield 53, 3) := by decide +kernel
theorem dX11_lists_26 : decode cX11_lists 26 = .ok (.iload_n 1, 1) := by decide +kernel
theorem dX11_lists_27 : decode cX11_lists 27 = .ok (.aaload, 1) := by decide +kernel
theorem dX11_lists_28 : decode cX11_lists 28 = .ok (.astore_n 3, 1) := by decide +kernel
theorem dX11_lists_29 : decode cX11_lists 29 = .ok (.aload_n 3, 1) := by decide +kernel
theorem dX11_lists_30 : decode cX11_lists 30 = .ok (.invokevirtual 244, 3) := by decide +kernel
theorem dX11_lists_33 : decode cX11_lists 33 = .ok (.ifCond .eq 6, 3) := by decide +kernel
theorem dX11_lists_36 : decode cX11_lists 36 = .ok (.bipush (-6), 2) := by decide +kernel
theorem dX11_lists_38 : decode cX11_lists 38 = .ok (.ireturn, 1) := by decide +kernel
theorem dX11_lists_39 : decode cX11_lists 39 = .ok (.iconst 0, 1) := by decide +kernel
theorem dX11_lists_40 : decode cX11_lists 40 = .ok (.istore 4, 2) := by decide +kernel
theorem dX11_lists_42 : decode cX11_lists 42 = .ok (.aload_n 0, 1) := by decide +kernel
theorem dX11_lists_43 : decode cX11_lists 43 = .ok (.getfield 73, 3) := by decide +kernel
theorem dX11_lists_46 : decode cX11_lists 46 = .ok (.aload_n 0, 1) := by decide +kernel
theorem dX11_lists_47 : decode cX11_lists 47 = .ok (.getfield 34, 3) := by decide +kernel
theorem dX11_lists_50 : decode cX11_lists 50 = .ok (.iload_n 2, 1) := by decide +kernel
theorem dX11_lists_51 : decode cX11_lists 51 = .ok (.invokevirtual 159, 3) := by decide +kernel
theorem dX11_lists_54 : decode cX11_lists 54 = .ok (.iconst 0, 1) := by decide +kernel
theorem dX11_lists_55 : decode cX11_lists 55 = .ok (.istore 5, 2) := by decide +kernel
theorem dX11_lists_57 : decode cX11_lists 57 = .ok (.iload 5, 2) := by decide +kernel
theorem dX11_lists_59 : decode cX11_lists 59 = .ok (.bipush 12, 2) := by decide +kernel
theorem dX11_lists_61 : decode cX11_lists 61 = .ok (.if_icmp .ge 73, 3) := by decide +kernel
theorem dX11_lists_64 : decode cX11_lists 64 = .ok (.aload_n 0, 1) := by decide +kernel
theorem dX11_lists_65 : decode cX11_lists 65 = .ok (.getfield 73, 3) := by decide +kernel
theorem dX11_lists_68 : decode cX11_lists 68 = .ok (.invokevirtual 271, 3) := by decide +kernel
theorem dX11_lists_71 : decode cX11_lists 71 = .ok (.ifCond .eq 63, 3) := by decide +kernel
theorem dX11_lists_74 : decode cX11_lists 74 = .ok (.aload_n 3, 1) := by decide +kernel
theorem dX11_lists_75 : decode cX11_lists 75 = .ok (.iload 4, 2) := by decide +kernel
theorem dX11_lists_77 : decode cX11_lists 77 = .ok (.invokevirtual 380, 3) := by decide +kernel
theorem dX11_lists_80 : decode cX11_lists 80 = .ok (.ifCond .eq 21, 3) := by decide +kernel
theorem dX11_lists_83 : decode cX11_lists 83 = .ok (.aload_n 3, 1) := by decide +kernel
theorem dX11_lists_84 : decode cX11_lists 84 = .ok (.iload 4, 2) := by decide +kernel
theorem dX11_lists_86 : decode cX11_lists 86 = .ok (.iinc 4 1, 3) := by decide +kernel
theorem dX11_lists_89 : decode cX11_lists 89 = .ok (.aload_n 0, 1) := by decide +kernel
theorem dX11_lists_90 : decode cX11_lists 90 = .ok (.getfield 73, 3) := by decide +kernel
theorem dX11_lists_93 : decode cX11_lists 93 = .ok (.getfield 274, 3) := by decide +kernel
theorem dX11_lists_96 : decode cX11_lists 96 = .ok (.i2l, 1) := by decide +kernel
theorem dX11_lists_97 : decode cX11_lists 97 = .ok (.invokevirtual 385, 3) := by decide +kernel
theorem dX11_lists_100 : decode cX11_lists 100 = .ok (.pop2, 1) := by decide +kernel
theorem dX11_lists_101 : decode cX11_lists 101 = .ok (.aload_n 3, 1) := by decide +kernel
theorem dX11_lists_102 : decode cX11_lists 102 = .ok (.iload 4, 2) := by decide +kernel
theorem dX11_lists_104 : decode cX11_lists 104 = .ok (.invokevirtual 380, 3) := by decide +kernel
theorem dX11_lists_107 : decode cX11_lists 107 = .ok (.ifCond .eq 21, 3) := by decide +kernel
theorem dX11_lists_110 : decode cX11_lists 110 = .ok (.aload_n 3, 1) := by decide +kernel
theorem dX11_lists_111 : decode cX11_lists 111 = .ok (.iload 4, 2) := by decide +kernel
theorem dX11_lists_113 : decode cX11_lists 113 = .ok (.iinc 4 1, 3) := by decide +kernel
theorem dX11_lists_116 : decode cX11_lists 116 = .ok (.aload_n 0, 1) := by decide +kernel
theorem dX11_lists_117 : decode cX11_lists 117 = .ok (.getfield 73, 3) := by decide +kernel
theorem dX11_lists_120 : decode cX11_lists 120 = .ok (.getfield 389, 3) := by decide +kernel
theorem dX11_lists_123 : decode cX11_lists 123 = .ok (.i2l, 1) := by decide +kernel
theorem dX11_lists_124 : decode cX11_lists 124 = .ok (.invokevirtual 385, 3) := by decide +kernel
theorem dX11_lists_127 : decode cX11_lists 127 = .ok (.pop2, 1) := by decide +kernel
theorem dX11_lists_128 : decode cX11_lists 128 = .ok (.iinc 5 1, 3) := by decide +kernel
theorem dX11_lists_131 : decode cX11_lists 131 = .ok (.goto (-74), 3) := by decide +kernel
theorem dX11_lists_134 : decode cX11_lists 134 = .ok (.iload 4, 2) := by decide +kernel
theorem dX11_lists_136 : decode cX11_lists 136 = .ok (.ireturn, 1) := by decide +kernel
theorem dX11_image_0 : decode cX11_image 0 = .ok (.iload_n 1, 1) := by decide +kernel
theorem dX11_image_1 : decode cX11_image 1 = .ok (.ifCond .lt 8, 3) := by decide +kernel
theorem dX11_image_4 : decode cX11_image 4 = .ok (.iload_n 1, 1) := by decide +kernel
theorem dX11_image_5 : decode cX11_image 5 = .ok (.iconst 2, 1) := by decide +kernel
theorem dX11_image_6 : decode cX11_image 6 = .ok (.if_icmp .lt 6, 3) := by decide +kernel
theorem dX11_image_9 : decode cX11_image 9 = .ok (.bipush (-2), 2) := by decide +kernel
theorem dX11_image_11 : decode cX11_image 11 = .ok (.ireturn, 1) := by decide +kernel
theorem dX11_image_12 : decode cX11_image 12 = .ok (.aload_n 0, 1) := by decide +kernel
theorem dX11_image_13 : decode cX11_image 13 = .ok (.getfield 57, 3) := by decide +kernel
theorem dX11_image_16 : decode cX11_image 16 = .ok (.iload_n 1, 1) := by decide +kernel
theorem dX11_image_17 : decode cX11_image 17 = .ok (.aaload, 1) := by decide +kernel
theorem dX11_image_18 : decode cX11_image 18 = .ok (.aload_n 0, 1) := by decide +kernel
theorem dX11_image_19 : decode cX11_image 19 = .ok (.getfield 27, 3) := by decide +kernel
theorem dX11_image_22 : decode cX11_image 22 = .ok (.invokevirtual 122, 3) := by decide +kernel
theorem dX11_image_25 : decode cX11_image 25 = .ok (.aload_n 0, 1) := by decide +kernel
theorem dX11_image_26 : decode cX11_image 26 = .ok (.getfield 61, 3) := by decide +kernel
theorem dX11_image_29 : decode cX11_image 29 = .ok (.iload_n 1, 1) := by decide +kernel
theorem dX11_image_30 : decode cX11_image 30 = .ok (.aaload, 1) := by decide +kernel
theorem dX11_image_31 : decode cX11_image 31 = .ok (.aload_n 0, 1) := by decide +kernel
theorem dX11_image_32 : decode cX11_image 32 = .ok (.getfield 34, 3) := by decide +kernel
theorem dX11_image_35 : decode cX11_image 35 = .ok (.invokevirtual 126, 3) := by decide +kernel
theorem dX11_image_38 : decode cX11_image 38 = .ok (.aload_n 0, 1) := by decide +kernel
theorem dX11_image_39 : decode cX11_image 39 = .ok (.getfield 64, 3) := by decide +kernel
theorem dX11_image_42 : decode cX11_image 42 = .ok (.iload_n 1, 1) := by decide +kernel
theorem dX11_image_43 : decode cX11_image 43 = .ok (.iconst 1, 1) := by decide +kernel
theorem dX11_image_44 : decode cX11_image 44 = .ok (.bastore, 1) := by decide +kernel
theorem dX11_image_45 : decode cX11_image 45 = .ok (.iconst 0, 1) := by decide +kernel
theorem dX11_image_46 : decode cX11_image 46 = .ok (.ireturn, 1) := by decide +kernel
theorem dX11_restore_0 : decode cX11_restore 0 = .ok (.iload_n 1, 1) := by decide +kernel
theorem dX11_restore_1 : decode cX11_restore 1 = .ok (.ifCond .lt 8, 3) := by decide +kernel
theorem dX11_restore_4 : decode cX11_restore 4 = .ok (.iload_n 1, 1) := by decide +kernel
theorem dX11_restore_5 : decode cX11_restore 5 = .ok (.iconst 2, 1) := by decide +kernel
theorem dX11_restore_6 : decode cX11_restore 6 = .ok (.if_icmp .lt 6, 3) := by decide +kernel
theorem dX11_restore_9 : decode cX11_restore 9 = .ok (.bipush (-2), 2) := by decide +kernel
theorem dX11_restore_11 : decode cX11_restore 11 = .ok (.ireturn, 1) := by decide +kernel
theorem dX11_restore_12 : decode cX11_restore 12 = .ok (.aload_n 0, 1) := by decide +kernel
theorem dX11_restore_13 : decode cX11_restore 13 = .ok (.getfield 64, 3) := by decide +kernel
theorem dX11_restore_16 : decode cX11_restore 16 = .ok (.iload_n 1, 1) := by decide +kernel
theorem dX11_restore_17 : decode cX11_restore 17 = .ok (.baload, 1) := by decide +kernel
theorem dX11_restore_18 : decode cX11_restore 18 = .ok (.ifCond .ne 6, 3) := by decide +kernel
theorem dX11_restore_21 : decode cX11_restore 21 = .ok (.bipush (-5), 2) := by decide +kernel
theorem dX11_restore_23 : decode cX11_restore 23 = .ok (.ireturn, 1) := by decide +kernel
theorem dX11_restore_24 : decode cX11_restore 24 = .ok (.aload_n 0, 1) := by decide +kernel
theorem dX11_restore_25 : decode cX11_restore 25 = .ok (.getfield 27, 3) := by decide +kernel
theorem dX11_restore_28 : decode cX11_restore 28 = .ok (.aload_n 0, 1) := by decide +kernel
theorem dX11_restore_29 : decode cX11_restore 29 = .ok (.getfield 57, 3) := by decide +kernel
theorem dX11_restore_32 : decode cX11_restore 32 = .ok (.iload_n 1, 1) := by decide +kernel
theorem dX11_restore_33 : decode cX11_restore 33 = .ok (.aaload, 1) := by decide +kernel
theorem dX11_restore_34 : decode cX11_restore 34 = .ok (.invokevirtual 122, 3) := by decide +kernel
theorem dX11_restore_37 : decode cX11_restore 37 = .ok (.aload_n 0, 1) := by decide +kernel
theorem dX11_restore_38 : decode cX11_restore 38 = .ok (.getfield 34, 3) := by decide +kernel
theorem dX11_restore_41 : decode cX11_restore 41 = .ok (.aload_n 0, 1) := by decide +kernel
theorem dX11_restore_42 : decode cX11_restore 42 = .ok (.getfield 61, 3) := by decide +kernel
theorem dX11_restore_45 : decode cX11_restore 45 = .ok (.iload_n 1, 1) := by decide +kernel
theorem dX11_restore_46 : decode cX11_restore 46 = .ok (.aaload, 1) := by decide +kernel
theorem dX11_restore_47 : decode cX11_restore 47 = .ok (.invokevirtual 126, 3) := by decide +kernel
theorem dX11_restore_50 : decode cX11_restore 50 = .ok (.aload_n 0, 1) := by decide +kernel
theorem dX11_restore_51 : decode cX11_restore 51 = .ok (.iconst 0, 1) := by decide +kernel
theorem dX11_restore_52 : decode cX11_restore 52 = .ok (.putfield 48, 3) := by decide +kernel
theorem dX11_restore_55 : decode cX11_restore 55 = .ok (.iconst 0, 1) := by decide +kernel
theorem dX11_restore_56 : decode cX11_restore 56 = .ok (.ireturn, 1) := by decide +kernel
theorem dX11_count_0 : decode cX11_count 0 = .ok (.iload_n 1, 1) := by decide +kernel
theorem dX11_count_1 : decode cX11_count 1 = .ok (.tableswitch 119 0 8 #[51, 59, 67, 75, 80, 92, 101, 106, 111], 51) := by decide +kernel
theorem dX11_count_52 : decode cX11_count 52 = .ok (.aload_n 0, 1) := by decide +kernel
theorem dX11_count_53 : decode cX11_count 53 = .ok (.getfield 27, 3) := by decide +kernel
theorem dX11_count_56 : decode cX11_count 56 = .ok (.getfield 351, 3) := by decide +kernel
theorem dX11_count_59 : decode cX11_count 59 = .ok (.ireturn, 1) := by decide +kernel
theorem dX11_count_60 : decode cX11_count 60 = .ok (.aload_n 0, 1) := by decide +kernel
theorem dX11_count_61 : decode cX11_count 61 = .ok (.getfield 27, 3) := by decide +kernel
theorem dX11_count_64 : decode cX11_count 64 = .ok (.getfield 262, 3) := by decide +kernel
theorem dX11_count_67 : decode cX11_count 67 = .ok (.ireturn, 1) := by decide +kernel
theorem dX11_count_68 : decode cX11_count 68 = .ok (.aload_n 0, 1) := by decide +kernel
theorem dX11_count_69 : decode cX11_count 69 = .ok (.getfield 27, 3) := by decide +kernel
theorem dX11_count_72 : decode cX11_count 72 = .ok (.getfield 265, 3) := by decide +kernel
theorem dX11_count_75 : decode cX11_count 75 = .ok (.ireturn, 1) := by decide +kernel
theorem dX11_count_76 : decode cX11_count 76 = .ok (.aload_n 0, 1) := by decide +kernel
theorem dX11_count_77 : decode cX11_count 77 = .ok (.invokevirtual 392, 3) := by decide +kernel
theorem dX11_count_80 : decode cX11_count 80 = .ok (.ireturn, 1) := by decide +kernel
theorem dX11_count_81 : decode cX11_count 81 = .ok (.aload_n 0, 1) := by decide +kernel
theorem dX11_count_82 : decode cX11_count 82 = .ok (.aload_n 0, 1) := by decide +kernel
theorem dX11_count_83 : decode cX11_count 83 = .ok (.getfield 34, 3) := by decide +kernel
theorem dX11_count_86 : decode cX11_count 86 = .ok (.invokevirtual 255, 3) := by decide +kernel
theorem dX11_count_89 : decode cX11_count 89 = .ok (.invokestatic 214, 3) := by decide +kernel
theorem dX11_count_92 : decode cX11_count 92 = .ok (.ireturn, 1) := by decide +kernel
theorem dX11_count_93 : decode cX11_count 93 = .ok (.aload_n 0, 1) := by decide +kernel
theorem dX11_count_94 : decode cX11_count 94 = .ok (.aload_n 0, 1) := by decide +kernel
theorem dX11_count_95 : decode cX11_count 95 = .ok (.getfield 34, 3) := by decide +kernel
theorem dX11_count_98 : decode cX11_count 98 = .ok (.invokevirtual 259, 3) := by decide +kernel
theorem dX11_count_101 : decode cX11_count 101 = .ok (.ireturn, 1) := by decide +kernel
theorem dX11_count_102 : decode cX11_count 102 = .ok (.aload_n 0, 1) := by decide +kernel
theorem dX11_count_103 : decode cX11_count 103 = .ok (.getfield 48, 3) := by decide +kernel
theorem dX11_count_106 : decode cX11_count 106 = .ok (.ireturn, 1) := by decide +kernel
theorem dX11_count_107 : decode cX11_count 107 = .ok (.aload_n 0, 1) := by decide +kernel
theorem dX11_count_108 : decode cX11_count 108 = .ok (.getfield 13, 3) := by decide +kernel
theorem dX11_count_111 : decode cX11_count 111 = .ok (.ireturn, 1) := by decide +kernel
theorem dX11_count_112 : decode cX11_count 112 = .ok (.aload_n 0, 1) := by decide +kernel
theorem dX11_count_113 : decode cX11_count 113 = .ok (.getfield 27, 3) := by decide +kernel
theorem dX11_count_116 : decode cX11_count 116 = .ok (.getfield 129, 3) := by decide +kernel
theorem dX11_count_119 : decode cX11_count 119 = .ok (.ireturn, 1) := by decide +kernel
theorem dX11_count_120 : decode cX11_count 120 = .ok (.iconst (-1), 1) := by decide +kernel
theorem dX11_count_121 : decode cX11_count 121 = .ok (.ireturn, 1) := by decide +kernel
theorem dX11_putBytes_0 : decode cX11_putBytes 0 = .ok (.bipush 24, 2) := by decide +kernel
theorem dX11_putBytes_2 : decode cX11_putBytes 2 = .ok (.istore_n 2, 1) := by decide +kernel
theorem dX11_putBytes_3 : decode cX11_putBytes 3 = .ok (.iload_n 2, 1) := by decide +kernel
theorem dX11_putBytes_4 : decode cX11_putBytes 4 = .ok (.ifCond .lt 41, 3) := by decide +kernel
theorem dX11_putBytes_7 : decode cX11_putBytes 7 = .ok (.aload_n 0, 1) := by decide +kernel
theorem dX11_putBytes_8 : decode cX11_putBytes 8 = .ok (.getfield 13, 3) := by decide +kernel
theorem dX11_putBytes_11 : decode cX11_putBytes 11 = .ok (.aload_n 0, 1) := by decide +kernel
theorem dX11_putBytes_12 : decode cX11_putBytes 12 = .ok (.getfield 9, 3) := by decide +kernel
theorem dX11_putBytes_15 : decode cX11_putBytes 15 = .ok (.arraylength, 1) := by decide +kernel
theorem dX11_putBytes_16 : decode cX11_putBytes 16 = .ok (.if_icmp .ge 23, 3) := by decide +kernel
theorem dX11_putBytes_19 : decode cX11_putBytes 19 = .ok (.aload_n 0, 1) := by decide +kernel
theorem dX11_putBytes_20 : decode cX11_putBytes 20 = .ok (.getfield 9, 3) := by decide +kernel
theorem dX11_putBytes_23 : decode cX11_putBytes 23 = .ok (.aload_n 0, 1) := by decide +kernel
theorem dX11_putBytes_24 : decode cX11_putBytes 24 = .ok (.dup, 1) := by decide +kernel
theorem dX11_putBytes_25 : decode cX11_putBytes 25 = .ok (.getfield 13, 3) := by decide +kernel
theorem dX11_putBytes_28 : decode cX11_putBytes 28 = .ok (.dup_x1, 1) := by decide +kernel
theorem dX11_putBytes_29 : decode cX11_putBytes 29 = .ok (.iconst 1, 1) := by decide +kernel
theorem dX11_putBytes_30 : decode cX11_putBytes 30 = .ok (.iadd, 1) := by decide +kernel
theorem dX11_putBytes_31 : decode cX11_putBytes 31 = .ok (.putfield 13, 3) := by decide +kernel
theorem dX11_putBytes_34 : decode cX11_putBytes 34 = .ok (.iload_n 1, 1) := by decide +kernel
theorem dX11_putBytes_35 : decode cX11_putBytes 35 = .ok (.iload_n 2, 1) := by decide +kernel
theorem dX11_putBytes_36 : decode cX11_putBytes 36 = .ok (.iushr, 1) := by decide +kernel
theorem dX11_putBytes_37 : decode cX11_putBytes 37 = .ok (.i2b, 1) := by decide +kernel
theorem dX11_putBytes_38 : decode cX11_putBytes 38 = .ok (.bastore, 1) := by decide +kernel
theorem dX11_putBytes_39 : decode cX11_putBytes 39 = .ok (.iinc 2 (-8), 3) := by decide +kernel
theorem dX11_putBytes_42 : decode cX11_putBytes 42 = .ok (.goto (-39), 3) := by decide +kernel
theorem dX11_putBytes_45 : decode cX11_putBytes 45 = .ok (.return_, 1) := by decide +kernel
theorem dX11_keepBefore_0 : decode cX11_keepBefore 0 = .ok (.aload_n 0, 1) := by decide +kernel
theorem dX11_keepBefore_1 : decode cX11_keepBefore 1 = .ok (.getfield 41, 3) := by decide +kernel
theorem dX11_keepBefore_4 : decode cX11_keepBefore 4 = .ok (.aload_n 0, 1) := by decide +kernel
theorem dX11_keepBefore_5 : decode cX11_keepBefore 5 = .ok (.getfield 45, 3) := by decide +kernel
theorem dX11_keepBefore_8 : decode cX11_keepBefore 8 = .ok (.aaload, 1) := by decide +kernel
theorem dX11_keepBefore_9 : decode cX11_keepBefore 9 = .ok (.aload_n 0, 1) := by decide +kernel
theorem dX11_keepBefore_10 : decode cX11_keepBefore 10 = .ok (.getfield 34, 3) := by decide +kernel
theorem dX11_keepBefore_13 : decode cX11_keepBefore 13 = .ok (.invokevirtual 126, 3) := by decide +kernel
theorem dX11_keepBefore_16 : decode cX11_keepBefore 16 = .ok (.return_, 1) := by decide +kernel
theorem dX11_countBefore_0 : decode cX11_countBefore 0 = .ok (.aload_n 0, 1) := by decide +kernel
theorem dX11_countBefore_1 : decode cX11_countBefore 1 = .ok (.aload_n 0, 1) := by decide +kernel
theorem dX11_countBefore_2 : decode cX11_countBefore 2 = .ok (.getfield 45, 3) := by decide +kernel
theorem dX11_countBefore_5 : decode cX11_countBefore 5 = .ok (.iconst 1, 1) := by decide +kernel
theorem dX11_countBefore_6 : decode cX11_countBefore 6 = .ok (.iadd, 1) := by decide +kernel
theorem dX11_countBefore_7 : decode cX11_countBefore 7 = .ok (.aload_n 0, 1) := by decide +kernel
theorem dX11_countBefore_8 : decode cX11_countBefore 8 = .ok (.getfield 41, 3) := by decide +kernel
theorem dX11_countBefore_11 : decode cX11_countBefore 11 = .ok (.arraylength, 1) := by decide +kernel
theorem dX11_countBefore_12 : decode cX11_countBefore 12 = .ok (.irem, 1) := by decide +kernel
theorem dX11_countBefore_13 : decode cX11_countBefore 13 = .ok (.putfield 45, 3) := by decide +kernel
theorem dX11_countBefore_16 : decode cX11_countBefore 16 = .ok (.aload_n 0, 1) := by decide +kernel
theorem dX11_countBefore_17 : decode cX11_countBefore 17 = .ok (.aload_n 0, 1) := by decide +kernel
theorem dX11_countBefore_18 : decode cX11_countBefore 18 = .ok (.getfield 48, 3) := by decide +kernel
theorem dX11_countBefore_21 : decode cX11_countBefore 21 = .ok (.iconst 1, 1) := by decide +kernel
theorem dX11_countBefore_22 : decode cX11_countBefore 22 = .ok (.iadd, 1) := by decide +kernel
theorem dX11_countBefore_23 : decode cX11_countBefore 23 = .ok (.bipush 10, 2) := by decide +kernel
theorem dX11_countBefore_25 : decode cX11_countBefore 25 = .ok (.invokestatic 395, 3) := by decide +kernel
theorem dX11_countBefore_28 : decode cX11_countBefore 28 = .ok (.putfield 48, 3) := by decide +kernel
theorem dX11_countBefore_31 : decode cX11_countBefore 31 = .ok (.return_, 1) := by decide +kernel
theorem dX11_isTray_0 : decode cX11_isTray 0 = .ok (.iload_n 1, 1) := by decide +kernel
theorem dX11_isTray_1 : decode cX11_isTray 1 = .ok (.ifCond .lt 12, 3) := by decide +kernel
theorem dX11_isTray_4 : decode cX11_isTray 4 = .ok (.iload_n 1, 1) := by decide +kernel
theorem dX11_isTray_5 : decode cX11_isTray 5 = .ok (.iconst 4, 1) := by decide +kernel
theorem dX11_isTray_6 : decode cX11_isTray 6 = .ok (.if_icmp .ge 7, 3) := by decide +kernel
theorem dX11_isTray_9 : decode cX11_isTray 9 = .ok (.iconst 1, 1) := by decide +kernel
theorem dX11_isTray_10 : decode cX11_isTray 10 = .ok (.goto 4, 3) := by decide +kernel
theorem dX11_isTray_13 : decode cX11_isTray 13 = .ok (.iconst 0, 1) := by decide +kernel
theorem dX11_isTray_14 : decode cX11_isTray 14 = .ok (.ireturn, 1) := by decide +kernel
theorem dX11_ridersOf_0 : decode cX11_ridersOf 0 = .ok (.iconst 0, 1) := by decide +kernel
theorem dX11_ridersOf_1 : decode cX11_ridersOf 1 = .ok (.istore_n 2, 1) := by decide +kernel
theorem dX11_ridersOf_2 : decode cX11_ridersOf 2 = .ok (.iconst 0, 1) := by decide +kernel
theorem dX11_ridersOf_3 : decode cX11_ridersOf 3 = .ok (.istore_n 3, 1) := by decide +kernel
theorem dX11_ridersOf_4 : decode cX11_ridersOf 4 = .ok (.iload_n 3, 1) := by decide +kernel
theorem dX11_ridersOf_5 : decode cX11_ridersOf 5 = .ok (.aload_n 0, 1) := by decide +kernel
theorem dX11_ridersOf_6 : decode cX11_ridersOf 6 = .ok (.getfield 27, 3) := by decide +kernel
theorem dX11_ridersOf_9 : decode cX11_ridersOf 9 = .ok (.getfield 265, 3) := by decide +kernel
theorem dX11_ridersOf_12 : decode cX11_ridersOf 12 = .ok (.if_icmp .ge 28, 3) := by decide +kernel
theorem dX11_ridersOf_15 : decode cX11_ridersOf 15 = .ok (.aload_n 0, 1) := by decide +kernel
theorem dX11_ridersOf_16 : decode cX11_ridersOf 16 = .ok (.getfield 34, 3) := by decide +kernel
theorem dX11_ridersOf_19 : decode cX11_ridersOf 19 = .ok (.getfield 176, 3) := by decide +kernel
theorem dX11_ridersOf_22 : decode cX11_ridersOf 22 = .ok (.iload_n 3, 1) := by decide +kernel
theorem dX11_ridersOf_23 : decode cX11_ridersOf 23 = .ok (.iaload, 1) := by decide +kernel
theorem dX11_ridersOf_24 : decode cX11_ridersOf 24 = .ok (.iload_n 1, 1) := by decide +kernel
theorem dX11_ridersOf_25 : decode cX11_ridersOf 25 = .ok (.if_icmp .ne 9, 3) := by decide +kernel
theorem dX11_ridersOf_28 : decode cX11_ridersOf 28 = .ok (.iload_n 2, 1) := by decide +kernel
theorem dX11_ridersOf_29 : decode cX11_ridersOf 29 = .ok (.iconst 1, 1) := by decide +kernel
theorem dX11_ridersOf_30 : decode cX11_ridersOf 30 = .ok (.iload_n 3, 1) := by decide +kernel
theorem dX11_ridersOf_31 : decode cX11_ridersOf 31 = .ok (.ishl, 1) := by decide +kernel
theorem dX11_ridersOf_32 : decode cX11_ridersOf 32 = .ok (.ior, 1) := by decide +kernel
theorem dX11_ridersOf_33 : decode cX11_ridersOf 33 = .ok (.istore_n 2, 1) := by decide +kernel
theorem dX11_ridersOf_34 : decode cX11_ridersOf 34 = .ok (.iinc 3 1, 3) := by decide +kernel
theorem dX11_ridersOf_37 : decode cX11_ridersOf 37 = .ok (.goto (-33), 3) := by decide +kernel
theorem dX11_ridersOf_40 : decode cX11_ridersOf 40 = .ok (.iload_n 2, 1) := by decide +kernel
theorem dX11_ridersOf_41 : decode cX11_ridersOf 41 = .ok (.ireturn, 1) := by decide +kernel
theorem dX11_riders_0 : decode cX11_riders 0 = .ok (.iconst 0, 1) := by decide +kernel
theorem dX11_riders_1 : decode cX11_riders 1 = .ok (.istore_n 1, 1) := by decide +kernel
theorem dX11_riders_2 : decode cX11_riders 2 = .ok (.iconst 0, 1) := by decide +kernel
theorem dX11_riders_3 : decode cX11_riders 3 = .ok (.istore_n 2, 1) := by decide +kernel
theorem dX11_riders_4 : decode cX11_riders 4 = .ok (.iload_n 2, 1) := by decide +kernel
theorem dX11_riders_5 : decode cX11_riders 5 = .ok (.aload_n 0, 1) := by decide +kernel
theorem dX11_riders_6 : decode cX11_riders 6 = .ok (.getfield 27, 3) := by decide +kernel
theorem dX11_riders_9 : decode cX11_riders 9 = .ok (.getfield 265, 3) := by decide +kernel
theorem dX11_riders_12 : decode cX11_riders 12 = .ok (.if_icmp .ge 25, 3) := by decide +kernel
theorem dX11_riders_15 : decode cX11_riders 15 = .ok (.aload_n 0, 1) := by decide +kernel
theorem dX11_riders_16 : decode cX11_riders 16 = .ok (.getfield 34, 3) := by decide +kernel
theorem dX11_riders_19 : decode cX11_riders 19 = .ok (.getfield 176, 3) := by decide +kernel
theorem dX11_riders_22 : decode cX11_riders 22 = .ok (.iload_n 2, 1) := by decide +kernel
theorem dX11_riders_23 : decode cX11_riders 23 = .ok (.iaload, 1) := by decide +kernel
theorem dX11_riders_24 : decode cX11_riders 24 = .ok (.iconst (-1), 1) := by decide +kernel
theorem dX11_riders_25 : decode cX11_riders 25 = .ok (.if_icmp .eq 6, 3) := by decide +kernel
theorem dX11_riders_28 : decode cX11_riders 28 = .ok (.iinc 1 1, 3) := by decide +kernel
theorem dX11_riders_31 : decode cX11_riders 31 = .ok (.iinc 2 1, 3) := by decide +kernel
theorem dX11_riders_34 : decode cX11_riders 34 = .ok (.goto (-30), 3) := by decide +kernel
theorem dX11_riders_37 : decode cX11_riders 37 = .ok (.iload_n 1, 1) := by decide +kernel
theorem dX11_riders_38 : decode cX11_riders 38 = .ok (.ireturn, 1) := by decide +kernel
theorem dX11_peopleAtHome_0 : decode cX11_peopleAtHome 0 = .ok (.iconst 0, 1) := by decide +kernel
theorem dX11_peopleAtHome_1 : decode cX11_peopleAtHome 1 = .ok (.istore_n 2, 1) := by decide +kernel
theorem dX11_peopleAtHome_2 : decode cX11_peopleAtHome 2 = .ok (.iconst 0, 1) := by decide +kernel
theorem dX11_peopleAtHome_3 : decode cX11_peopleAtHome 3 = .ok (.istore_n 3, 1) := by decide +kernel
theorem dX11_peopleAtHome_4 : decode cX11_peopleAtHome 4 = .ok (.iload_n 3, 1) := by decide +kernel
theorem dX11_peopleAtHome_5 : decode cX11_peopleAtHome 5 = .ok (.aload_n 0, 1) := by decide +kernel
theorem dX11_peopleAtHome_6 : decode cX11_peopleAtHome 6 = .ok (.getfield 27, 3) := by decide +kernel
theorem dX11_peopleAtHome_9 : decode cX11_peopleAtHome 9 = .ok (.getfield 265, 3) := by decide +kernel
theorem dX11_peopleAtHome_12 : decode cX11_peopleAtHome 12 = .ok (.if_icmp .ge 43, 3) := by decide +kernel
theorem dX11_peopleAtHome_15 : decode cX11_peopleAtHome 15 = .ok (.aload_n 1, 1) := by decide +kernel
theorem dX11_peopleAtHome_16 : decode cX11_peopleAtHome 16 = .ok (.getfield 176, 3) := by decide +kernel
theorem dX11_peopleAtHome_19 : decode cX11_peopleAtHome 19 = .ok (.iload_n 3, 1) := by decide +kernel
theorem dX11_peopleAtHome_20 : decode cX11_peopleAtHome 20 = .ok (.iaload, 1) := by decide +kernel
theorem dX11_peopleAtHome_21 : decode cX11_peopleAtHome 21 = .ok (.iconst (-1), 1) := by decide +kernel
theorem dX11_peopleAtHome_22 : decode cX11_peopleAtHome 22 = .ok (.if_icmp .ne 27, 3) := by decide +kernel
theorem dX11_peopleAtHome_25 : decode cX11_peopleAtHome 25 = .ok (.aload_n 1, 1) := by decide +kernel
theorem dX11_peopleAtHome_26 : decode cX11_peopleAtHome 26 = .ok (.getfield 170, 3) := by decide +kernel
theorem dX11_peopleAtHome_29 : decode cX11_peopleAtHome 29 = .ok (.iload_n 3, 1) := by decide +kernel
theorem dX11_peopleAtHome_30 : decode cX11_peopleAtHome 30 = .ok (.iaload, 1) := by decide +kernel
theorem dX11_peopleAtHome_31 : decode cX11_peopleAtHome 31 = .ok (.aload_n 0, 1) := by decide +kernel
theorem dX11_peopleAtHome_32 : decode cX11_peopleAtHome 32 = .ok (.getfield 27, 3) := by decide +kernel
theorem dX11_peopleAtHome_35 : decode cX11_peopleAtHome 35 = .ok (.getfield 179, 3) := by decide +kernel
theorem dX11_peopleAtHome_38 : decode cX11_peopleAtHome 38 = .ok (.iload_n 3, 1) := by decide +kernel
theorem dX11_peopleAtHome_39 : decode cX11_peopleAtHome 39 = .ok (.iaload, 1) := by decide +kernel
theorem dX11_peopleAtHome_40 : decode cX11_peopleAtHome 40 = .ok (.if_icmp .ne 9, 3) := by decide +kernel
theorem dX11_peopleAtHome_43 : decode cX11_peopleAtHome 43 = .ok (.iload_n 2, 1) := by decide +kernel
theorem dX11_peopleAtHome_44 : decode cX11_peopleAtHome 44 = .ok (.iconst 1, 1) := by decide +kernel
theorem dX11_peopleAtHome_45 : decode cX11_peopleAtHome 45 = .ok (.iload_n 3, 1) := by decide +kernel
theorem dX11_peopleAtHome_46 : decode cX11_peopleAtHome 46 = .ok (.ishl, 1) := by decide +kernel
theorem dX11_peopleAtHome_47 : decode cX11_peopleAtHome 47 = .ok (.ior, 1) := by decide +kernel
theorem dX11_peopleAtHome_48 : decode cX11_peopleAtHome 48 = .ok (.istore_n 2, 1) := by decide +kernel
theorem dX11_peopleAtHome_49 : decode cX11_peopleAtHome 49 = .ok (.iinc 3 1, 3) := by decide +kernel
theorem dX11_peopleAtHome_52 : decode cX11_peopleAtHome 52 = .ok (.goto (-48), 3) := by decide +kernel
theorem dX11_peopleAtHome_55 : decode cX11_peopleAtHome 55 = .ok (.iload_n 2, 1) := by decide +kernel
theorem dX11_peopleAtHome_56 : decode cX11_peopleAtHome 56 = .ok (.ireturn, 1) := by decide +kernel
theorem dX11_lightsOf_0 : decode cX11_lightsOf 0 = .ok (.iconst 0, 1) := by decide +kernel
theorem dX11_lightsOf_1 : decode cX11_lightsOf 1 = .ok (.istore_n 2, 1) := by decide +kernel
theorem dX11_lightsOf_2 : decode cX11_lightsOf 2 = .ok (.iconst 0, 1) := by decide +kernel
theorem dX11_lightsOf_3 : decode cX11_lightsOf 3 = .ok (.istore_n 3, 1) := by decide +kernel
theorem dX11_lightsOf_4 : decode cX11_lightsOf 4 = .ok (.iload_n 3, 1) := by decide +kernel
theorem dX11_lightsOf_5 : decode cX11_lightsOf 5 = .ok (.aload_n 0, 1) := by decide +kernel
theorem dX11_lightsOf_6 : decode cX11_lightsOf 6 = .ok (.getfield 27, 3) := by decide +kernel
theorem dX11_lightsOf_9 : decode cX11_lightsOf 9 = .ok (.getfield 262, 3) := by decide +kernel
theorem dX11_lightsOf_12 : decode cX11_lightsOf 12 = .ok (.if_icmp .ge 21, 3) := by decide +kernel
theorem dX11_lightsOf_15 : decode cX11_lightsOf 15 = .ok (.iload_n 2, 1) := by decide +kernel
theorem dX11_lightsOf_16 : decode cX11_lightsOf 16 = .ok (.aload_n 1, 1) := by decide +kernel
theorem dX11_lightsOf_17 : decode cX11_lightsOf 17 = .ok (.getfield 146, 3) := by decide +kernel
theorem dX11_lightsOf_20 : decode cX11_lightsOf 20 = .ok (.iload_n 3, 1) := by decide +kernel
theorem dX11_lightsOf_21 : decode cX11_lightsOf 21 = .ok (.iaload, 1) := by decide +kernel
theorem dX11_lightsOf_22 : decode cX11_lightsOf 22 = .ok (.invokestatic 214, 3) := by decide +kernel
theorem dX11_lightsOf_25 : decode cX11_lightsOf 25 = .ok (.iadd, 1) := by decide +kernel
theorem dX11_lightsOf_26 : decode cX11_lightsOf 26 = .ok (.istore_n 2, 1) := by decide +kernel
theorem dX11_lightsOf_27 : decode cX11_lightsOf 27 = .ok (.iinc 3 1, 3) := by decide +kernel
theorem dX11_lightsOf_30 : decode cX11_lightsOf 30 = .ok (.goto (-26), 3) := by decide +kernel
theorem dX11_lightsOf_33 : decode cX11_lightsOf 33 = .ok (.iload_n 2, 1) := by decide +kernel
theorem dX11_lightsOf_34 : decode cX11_lightsOf 34 = .ok (.ireturn, 1) := by decide +kernel
theorem dX11_walkingHome_0 : decode cX11_walkingHome 0 = .ok (.aload_n 0, 1) := by decide +kernel
theorem dX11_walkingHome_1 : decode cX11_walkingHome 1 = .ok (.getfield 34, 3) := by decide +kernel
theorem dX11_walkingHome_4 : decode cX11_walkingHome 4 = .ok (.getfield 173, 3) := by decide +kernel
theorem dX11_walkingHome_7 : decode cX11_walkingHome 7 = .ok (.iload_n 1, 1) := by decide +kernel
theorem dX11_walkingHome_8 : decode cX11_walkingHome 8 = .ok (.iaload, 1) := by decide +kernel
theorem dX11_walkingHome_9 : decode cX11_walkingHome 9 = .ok (.aload_n 0, 1) := by decide +kernel
theorem dX11_walkingHome_10 : decode cX11_walkingHome 10 = .ok (.getfield 27, 3) := by decide +kernel
theorem dX11_walkingHome_13 : decode cX11_walkingHome 13 = .ok (.iload_n 1, 1) := by decide +kernel
theorem dX11_walkingHome_14 : decode cX11_walkingHome 14 = .ok (.aload_n 0, 1) := by decide +kernel
theorem dX11_walkingHome_15 : decode cX11_walkingHome 15 = .ok (.getfield 34, 3) := by decide +kernel
theorem dX11_walkingHome_18 : decode cX11_walkingHome 18 = .ok (.getfield 170, 3) := by decide +kernel
theorem dX11_walkingHome_21 : decode cX11_walkingHome 21 = .ok (.iload_n 1, 1) := by decide +kernel
theorem dX11_walkingHome_22 : decode cX11_walkingHome 22 = .ok (.iaload, 1) := by decide +kernel
theorem dX11_walkingHome_23 : decode cX11_walkingHome 23 = .ok (.invokevirtual 299, 3) := by decide +kernel
theorem dX11_walkingHome_26 : decode cX11_walkingHome 26 = .ok (.iadd, 1) := by decide +kernel
theorem dX11_walkingHome_27 : decode cX11_walkingHome 27 = .ok (.ireturn, 1) := by decide +kernel
theorem dX11_gatherSets_0 : decode cX11_gatherSets 0 = .ok (.aload_n 0, 1) := by decide +kernel
theorem dX11_gatherSets_1 : decode cX11_gatherSets 1 = .ok (.iload_n 1, 1) := by decide +kernel
theorem dX11_gatherSets_2 : decode cX11_gatherSets 2 = .ok (.invokevirtual 241, 3) := by decide +kernel
theorem dX11_gatherSets_5 : decode cX11_gatherSets 5 = .ok (.ifCond .eq 14, 3) := by decide +kernel
theorem dX11_gatherSets_8 : decode cX11_gatherSets 8 = .ok (.aload_n 0, 1) := by decide +kernel
theorem dX11_gatherSets_9 : decode cX11_gatherSets 9 = .ok (.getfield 27, 3) := by decide +kernel
theorem dX11_gatherSets_12 : decode cX11_gatherSets 12 = .ok (.iload_n 2, 1) := by decide +kernel
theorem dX11_gatherSets_13 : decode cX11_gatherSets 13 = .ok (.invokevirtual 135, 3) := by decide +kernel
theorem dX11_gatherSets_16 : decode cX11_gatherSets 16 = .ok (.ifCond .ne 6, 3) := by decide +kernel
theorem dX11_gatherSets_19 : decode cX11_gatherSets 19 = .ok (.bipush (-2), 2) := by decide +kernel
theorem dX11_gatherSets_21 : decode cX11_gatherSets 21 = .ok (.ireturn, 1) := by decide +kernel
theorem dX11_gatherSets_22 : decode cX11_gatherSets 22 = .ok (.aload_n 0, 1) := by decide +kernel
theorem dX11_gatherSets_23 : decode cX11_gatherSets 23 = .ok (.getfield 53, 3) := by decide +kernel
theorem dX11_gatherSets_26 : decode cX11_gatherSets 26 = .ok (.iload_n 1, 1) := by decide +kernel
theorem dX11_gatherSets_27 : decode cX11_gatherSets 27 = .ok (.aaload, 1) := by decide +kernel
theorem dX11_gatherSets_28 : decode cX11_gatherSets 28 = .ok (.astore_n 3, 1) := by decide +kernel
theorem dX11_gatherSets_29 : decode cX11_gatherSets 29 = .ok (.aload_n 3, 1) := by decide +kernel
theorem dX11_gatherSets_30 : decode cX11_gatherSets 30 = .ok (.invokevirtual 244, 3) := by decide +kernel
theorem dX11_gatherSets_33 : decode cX11_gatherSets 33 = .ok (.ifCond .eq 6, 3) := by decide +kernel
theorem dX11_gatherSets_36 : decode cX11_gatherSets 36 = .ok (.bipush (-6), 2) := by decide +kernel
theorem dX11_gatherSets_38 : decode cX11_gatherSets 38 = .ok (.ireturn, 1) := by decide +kernel
theorem dX11_gatherSets_39 : decode cX11_gatherSets 39 = .ok (.aload_n 3, 1) := by decide +kernel
theorem dX11_gatherSets_40 : decode cX11_gatherSets 40 = .ok (.getfield 398, 3) := by decide +kernel
theorem dX11_gatherSets_43 : decode cX11_gatherSets 43 = .ok (.iconst 2, 1) := by decide +kernel
theorem dX11_gatherSets_44 : decode cX11_gatherSets 44 = .ok (.if_icmp .lt 21, 3) := by decide +kernel
theorem dX11_gatherSets_47 : decode cX11_gatherSets 47 = .ok (.aload_n 3, 1) := by decide +kernel
theorem dX11_gatherSets_48 : decode cX11_gatherSets 48 = .ok (.getfield 398, 3) := by decide +kernel
theorem dX11_gatherSets_51 : decode cX11_gatherSets 51 = .ok (.bipush 16, 2) := by decide +kernel
theorem dX11_gatherSets_53 : decode cX11_gatherSets 53 = .ok (.if_icmp .gt 12, 3) := by decide +kernel
theorem dX11_gatherSets_56 : decode cX11_gatherSets 56 = .ok (.aload_n 3, 1) := by decide +kernel
theorem dX11_gatherSets_57 : decode cX11_gatherSets 57 = .ok (.getfield 398, 3) := by decide +kernel
theorem dX11_gatherSets_60 : decode cX11_gatherSets 60 = .ok (.iconst 2, 1) := by decide +kernel
theorem dX11_gatherSets_61 : decode cX11_gatherSets 61 = .ok (.irem, 1) := by decide +kernel
theorem dX11_gatherSets_62 : decode cX11_gatherSets 62 = .ok (.ifCond .eq 6, 3) := by decide +kernel
theorem dX11_gatherSets_65 : decode cX11_gatherSets 65 = .ok (.bipush (-4), 2) := by decide +kernel
theorem dX11_gatherSets_67 : decode cX11_gatherSets 67 = .ok (.ireturn, 1) := by decide +kernel
theorem dX11_gatherSets_68 : decode cX11_gatherSets 68 = .ok (.iconst 0, 1) := by decide +kernel
theorem dX11_gatherSets_69 : decode cX11_gatherSets 69 = .ok (.istore 4, 2) := by decide +kernel
theorem dX11_gatherSets_71 : decode cX11_gatherSets 71 = .ok (.iload 4, 2) := by decide +kernel
theorem dX11_gatherSets_73 : decode cX11_gatherSets 73 = .ok (.aload_n 3, 1) := by decide +kernel
theorem dX11_gatherSets_74 : decode cX11_gatherSets 74 = .ok (.getfield 398, 3) := by decide +kernel
theorem dX11_gatherSets_77 : decode cX11_gatherSets 77 = .ok (.if_icmp .ge 54, 3) := by decide +kernel
theorem dX11_gatherSets_80 : decode cX11_gatherSets 80 = .ok (.aload_n 3, 1) := by decide +kernel
theorem dX11_gatherSets_81 : decode cX11_gatherSets 81 = .ok (.iload 4, 2) := by decide +kernel
theorem dX11_gatherSets_83 : decode cX11_gatherSets 83 = .ok (.invokevirtual 401, 3) := by decide +kernel
theorem dX11_gatherSets_86 : decode cX11_gatherSets 86 = .ok (.lconst 0, 1) := by decide +kernel
theorem dX11_gatherSets_87 : decode cX11_gatherSets 87 = .ok (.lcmp, 1) := by decide +kernel
theorem dX11_gatherSets_88 : decode cX11_gatherSets 88 = .ok (.ifCond .lt 34, 3) := by decide +kernel
theorem dX11_gatherSets_91 : decode cX11_gatherSets 91 = .ok (.aload_n 3, 1) := by decide +kernel
theorem dX11_gatherSets_92 : decode cX11_gatherSets 92 = .ok (.iload 4, 2) := by decide +kernel
theorem dX11_gatherSets_94 : decode cX11_gatherSets 94 = .ok (.invokevirtual 401, 3) := by decide +kernel
theorem dX11_gatherSets_97 : decode cX11_gatherSets 97 = .ok (.aload_n 0, 1) := by decide +kernel
theorem dX11_gatherSets_98 : decode cX11_gatherSets 98 = .ok (.getfield 27, 3) := by decide +kernel
theorem dX11_gatherSets_101 : decode cX11_gatherSets 101 = .ok (.getfield 351, 3) := by decide +kernel
theorem dX11_gatherSets_104 : decode cX11_gatherSets 104 = .ok (.i2l, 1) := by decide +kernel
theorem dX11_gatherSets_105 : decode cX11_gatherSets 105 = .ok (.lcmp, 1) := by decide +kernel
theorem dX11_gatherSets_106 : decode cX11_gatherSets 106 = .ok (.ifCond .ge 16, 3) := by decide +kernel
theorem dX11_gatherSets_109 : decode cX11_gatherSets 109 = .ok (.aload_n 3, 1) := by decide +kernel
theorem dX11_gatherSets_110 : decode cX11_gatherSets 110 = .ok (.iload 4, 2) := by decide +kernel
theorem dX11_gatherSets_112 : decode cX11_gatherSets 112 = .ok (.iconst 1, 1) := by decide +kernel
theorem dX11_gatherSets_113 : decode cX11_gatherSets 113 = .ok (.iadd, 1) := by decide +kernel
theorem dX11_gatherSets_114 : decode cX11_gatherSets 114 = .ok (.invokevirtual 401, 3) := by decide +kernel
theorem dX11_gatherSets_117 : decode cX11_gatherSets 117 = .ok (.lconst 0, 1) := by decide +kernel
theorem dX11_gatherSets_118 : decode cX11_gatherSets 118 = .ok (.lcmp, 1) := by decide +kernel
theorem dX11_gatherSets_119 : decode cX11_gatherSets 119 = .ok (.ifCond .ge 6, 3) := by decide +kernel
theorem dX11_gatherSets_122 : decode cX11_gatherSets 122 = .ok (.bipush (-3), 2) := by decide +kernel
theorem dX11_gatherSets_124 : decode cX11_gatherSets 124 = .ok (.ireturn, 1) := by decide +kernel
theorem dX11_gatherSets_125 : decode cX11_gatherSets 125 = .ok (.iinc 4 2, 3) := by decide +kernel
theorem dX11_gatherSets_128 : decode cX11_gatherSets 128 = .ok (.goto (-57), 3) := by decide +kernel
theorem dX11_gatherSets_131 : decode cX11_gatherSets 131 = .ok (.aload_n 0, 1) := by decide +kernel
theorem dX11_gatherSets_132 : decode cX11_gatherSets 132 = .ok (.getfield 103, 3) := by decide +kernel
theorem dX11_gatherSets_135 : decode cX11_gatherSets 135 = .ok (.aload_n 3, 1) := by decide +kernel
theorem dX11_gatherSets_136 : decode cX11_gatherSets 136 = .ok (.iload_n 2, 1) := by decide +kernel
theorem dX11_gatherSets_137 : decode cX11_gatherSets 137 = .ok (.invokevirtual 405, 3) := by decide +kernel
theorem dX11_gatherSets_140 : decode cX11_gatherSets 140 = .ok (.iconst 0, 1) := by decide +kernel
theorem dX11_gatherSets_141 : decode cX11_gatherSets 141 = .ok (.ireturn, 1) := by decide +kernel
