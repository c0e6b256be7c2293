theorem dX12_init_0 : decode cX12_init 0 = .ok (.aload_n 0, 1) := by decide +kernel
theorem dX12_init_1 : decode cX12_init 1 = .ok (.invokespecial 3, 3) := by decide +kernel
theorem dX12_init_4 : decode cX12_init 4 = .ok (.aload_n 0, 1) := by decide +kernel
theorem dX12_init_5 : decode cX12_init 5 = .ok (.bipush 7, 2) := by decide +kernel
theorem dX12_init_7 : decode cX12_init 7 = .ok (.newarray .int, 2) := by decide +kernel
theorem dX12_init_9 : decode cX12_init 9 = .ok (.putfield 9, 3) := by decide +kernel
theorem dX12_init_12 : decode cX12_init 12 = .ok (.aload_n 0, 1) := by decide +kernel
theorem dX12_init_13 : decode cX12_init 13 = .ok (.bipush 7, 2) := by decide +kernel
theorem dX12_init_15 : decode cX12_init 15 = .ok (.newarray .int, 2) := by decide +kernel
theorem dX12_init_17 : decode cX12_init 17 = .ok (.putfield 15, 3) := by decide +kernel
theorem dX12_init_20 : decode cX12_init 20 = .ok (.aload_n 0, 1) := by decide +kernel
theorem dX12_init_21 : decode cX12_init 21 = .ok (.bipush 7, 2) := by decide +kernel
theorem dX12_init_23 : decode cX12_init 23 = .ok (.newarray .int, 2) := by decide +kernel
theorem dX12_init_25 : decode cX12_init 25 = .ok (.putfield 18, 3) := by decide +kernel
theorem dX12_init_28 : decode cX12_init 28 = .ok (.aload_n 0, 1) := by decide +kernel
theorem dX12_init_29 : decode cX12_init 29 = .ok (.bipush 7, 2) := by decide +kernel
theorem dX12_init_31 : decode cX12_init 31 = .ok (.newarray .int, 2) := by decide +kernel
theorem dX12_init_33 : decode cX12_init 33 = .ok (.putfield 21, 3) := by decide +kernel
theorem dX12_init_36 : decode cX12_init 36 = .ok (.aload_n 0, 1) := by decide +kernel
theorem dX12_init_37 : decode cX12_init 37 = .ok (.bipush 40, 2) := by decide +kernel
theorem dX12_init_39 : decode cX12_init 39 = .ok (.newarray .int, 2) := by decide +kernel
theorem dX12_init_41 : decode cX12_init 41 = .ok (.putfield 24, 3) := by decide +kernel
theorem dX12_init_44 : decode cX12_init 44 = .ok (.aload_n 0, 1) := by decide +kernel
theorem dX12_init_45 : decode cX12_init 45 = .ok (.bipush 40, 2) := by decide +kernel
theorem dX12_init_47 : decode cX12_init 47 = .ok (.newarray .int, 2) := by decide +kernel
theorem dX12_init_49 : decode cX12_init 49 = .ok (.putfield 27, 3) := by decide +kernel
theorem dX12_init_52 : decode cX12_init 52 = .ok (.aload_n 0, 1) := by decide +kernel
theorem dX12_init_53 : decode cX12_init 53 = .ok (.bipush 40, 2) := by decide +kernel
theorem dX12_init_55 : decode cX12_init 55 = .ok (.newarray .int, 2) := by decide +kernel
theorem dX12_init_57 : decode cX12_init 57 = .ok (.putfield 30, 3) := by decide +kernel
theorem dX12_init_60 : decode cX12_init 60 = .ok (.aload_n 0, 1) := by decide +kernel
theorem dX12_init_61 : decode cX12_init 61 = .ok (.bipush 40, 2) := by decide +kernel
theorem dX12_init_63 : decode cX12_init 63 = .ok (.newarray .int, 2) := by decide +kernel
theorem dX12_init_65 : decode cX12_init 65 = .ok (.putfield 33, 3) := by decide +kernel
theorem dX12_init_68 : decode cX12_init 68 = .ok (.aload_n 0, 1) := by decide +kernel
theorem dX12_init_69 : decode cX12_init 69 = .ok (.bipush 120, 2) := by decide +kernel
theorem dX12_init_71 : decode cX12_init 71 = .ok (.newarray .byte, 2) := by decide +kernel
theorem dX12_init_73 : decode cX12_init 73 = .ok (.putfield 36, 3) := by decide +kernel
theorem dX12_init_76 : decode cX12_init 76 = .ok (.aload_n 0, 1) := by decide +kernel
theorem dX12_init_77 : decode cX12_init 77 = .ok (.sipush 260, 3) := by decide +kernel
theorem dX12_init_80 : decode cX12_init 80 = .ok (.newarray .byte, 2) := by decide +kernel
theorem dX12_init_82 : decode cX12_init 82 = .ok (.putfield 40, 3) := by decide +kernel
theorem dX12_init_85 : decode cX12_init 85 = .ok (.aload_n 0, 1) := by decide +kernel
theorem dX12_init_86 : decode cX12_init 86 = .ok (.sipush 260, 3) := by decide +kernel
theorem dX12_init_89 : decode cX12_init 89 = .ok (.newarray .int, 2) := by decide +kernel
theorem dX12_init_91 : decode cX12_init 91 = .ok (.putfield 43, 3) := by decide +kernel
theorem dX12_init_94 : decode cX12_init 94 = .ok (.aload_n 0, 1) := by decide +kernel
theorem dX12_init_95 : decode cX12_init 95 = .ok (.iconst 2, 1) := by decide +kernel
theorem dX12_init_96 : decode cX12_init 96 = .ok (.newarray .int, 2) := by decide +kernel
theorem dX12_init_98 : decode cX12_init 98 = .ok (.putfield 46, 3) := by decide +kernel
theorem dX12_init_101 : decode cX12_init 101 = .ok (.aload_n 0, 1) := by decide +kernel
theorem dX12_init_102 : decode cX12_init 102 = .ok (.bipush 122, 2) := by decide +kernel
theorem dX12_init_104 : decode cX12_init 104 = .ok (.newarray .short, 2) := by decide +kernel
theorem dX12_init_106 : decode cX12_init 106 = .ok (.putfield 49, 3) := by decide +kernel
theorem dX12_init_109 : decode cX12_init 109 = .ok (.aload_n 0, 1) := by decide +kernel
theorem dX12_init_110 : decode cX12_init 110 = .ok (.bipush 122, 2) := by decide +kernel
theorem dX12_init_112 : decode cX12_init 112 = .ok (.newarray .short, 2) := by decide +kernel
theorem dX12_init_114 : decode cX12_init 114 = .ok (.putfield 53, 3) := by decide +kernel
theorem dX12_init_117 : decode cX12_init 117 = .ok (.aload_n 0, 1) := by decide +kernel
theorem dX12_init_118 : decode cX12_init 118 = .ok (.bipush 6, 2) := by decide +kernel
theorem dX12_init_120 : decode cX12_init 120 = .ok (.newarray .int, 2) := by decide +kernel
theorem dX12_init_122 : decode cX12_init 122 = .ok (.putfield 56, 3) := by decide +kernel
theorem dX12_init_125 : decode cX12_init 125 = .ok (.aload_n 0, 1) := by decide +kernel
theorem dX12_init_126 : decode cX12_init 126 = .ok (.sipush 130, 3) := by decide +kernel
theorem dX12_init_129 : decode cX12_init 129 = .ok (.newarray .int, 2) := by decide +kernel
theorem dX12_init_131 : decode cX12_init 131 = .ok (.putfield 59, 3) := by decide +kernel
theorem dX12_init_134 : decode cX12_init 134 = .ok (.aload_n 0, 1) := by decide +kernel
theorem dX12_init_135 : decode cX12_init 135 = .ok (.bipush 7, 2) := by decide +kernel
theorem dX12_init_137 : decode cX12_init 137 = .ok (.newarray .int, 2) := by decide +kernel
theorem dX12_init_139 : decode cX12_init 139 = .ok (.putfield 62, 3) := by decide +kernel
theorem dX12_init_142 : decode cX12_init 142 = .ok (.aload_n 0, 1) := by decide +kernel
theorem dX12_init_143 : decode cX12_init 143 = .ok (.bipush 7, 2) := by decide +kernel
theorem dX12_init_145 : decode cX12_init 145 = .ok (.newarray .int, 2) := by decide +kernel
theorem dX12_init_147 : decode cX12_init 147 = .ok (.putfield 65, 3) := by decide +kernel
theorem dX12_init_150 : decode cX12_init 150 = .ok (.aload_n 0, 1) := by decide +kernel
theorem dX12_init_151 : decode cX12_init 151 = .ok (.bipush 7, 2) := by decide +kernel
theorem dX12_init_153 : decode cX12_init 153 = .ok (.newarray .int, 2) := by decide +kernel
theorem dX12_init_155 : decode cX12_init 155 = .ok (.putfield 68, 3) := by decide +kernel
theorem dX12_init_158 : decode cX12_init 158 = .ok (.aload_n 0, 1) := by decide +kernel
theorem dX12_init_159 : decode cX12_init 159 = .ok (.sipush 625, 3) := by decide +kernel
theorem dX12_init_162 : decode cX12_init 162 = .ok (.newarray .boolean, 2) := by decide +kernel
theorem dX12_init_164 : decode cX12_init 164 = .ok (.putfield 71, 3) := by decide +kernel
theorem dX12_init_167 : decode cX12_init 167 = .ok (.aload_n 0, 1) := by decide +kernel
theorem dX12_init_168 : decode cX12_init 168 = .ok (.sipush 625, 3) := by decide +kernel
theorem dX12_init_171 : decode cX12_init 171 = .ok (.newarray .boolean, 2) := by decide +kernel
theorem dX12_init_173 : decode cX12_init 173 = .ok (.putfield 75, 3) := by decide +kernel
theorem dX12_init_176 : decode cX12_init 176 = .ok (.aload_n 0, 1) := by decide +kernel
theorem dX12_init_177 : decode cX12_init 177 = .ok (.bipush 10, 2) := by decide +kernel
theorem dX12_init_179 : decode cX12_init 179 = .ok (.newarray .int, 2) := by decide +kernel
theorem dX12_init_181 : decode cX12_init 181 = .ok (.putfield 78, 3) := by decide +kernel
theorem dX12_init_184 : decode cX12_init 184 = .ok (.aload_n 0, 1) := by decide +kernel
theorem dX12_init_185 : decode cX12_init 185 = .ok (.bipush 10, 2) := by decide +kernel
theorem dX12_init_187 : decode cX12_init 187 = .ok (.newarray .int, 2) := by decide +kernel
theorem dX12_init_189 : decode cX12_init 189 = .ok (.putfield 81, 3) := by decide +kernel
theorem dX12_init_192 : decode cX12_init 192 = .ok (.aload_n 0, 1) := by decide +kernel
theorem dX12_init_193 : decode cX12_init 193 = .ok (.bipush 6, 2) := by decide +kernel
theorem dX12_init_195 : decode cX12_init 195 = .ok (.newarray .int, 2) := by decide +kernel
theorem dX12_init_197 : decode cX12_init 197 = .ok (.putfield 84, 3) := by decide +kernel
theorem dX12_init_200 : decode cX12_init 200 = .ok (.aload_n 0, 1) := by decide +kernel
theorem dX12_init_201 : decode cX12_init 201 = .ok (.bipush 6, 2) := by decide +kernel
theorem dX12_init_203 : decode cX12_init 203 = .ok (.newarray .int, 2) := by decide +kernel
theorem dX12_init_205 : decode cX12_init 205 = .ok (.putfield 87, 3) := by decide +kernel
theorem dX12_init_208 : decode cX12_init 208 = .ok (.aload_n 0, 1) := by decide +kernel
theorem dX12_init_209 : decode cX12_init 209 = .ok (.iconst 5, 1) := by decide +kernel
theorem dX12_init_210 : decode cX12_init 210 = .ok (.newarray .int, 2) := by decide +kernel
theorem dX12_init_212 : decode cX12_init 212 = .ok (.putfield 90, 3) := by decide +kernel
theorem dX12_init_215 : decode cX12_init 215 = .ok (.aload_n 0, 1) := by decide +kernel
theorem dX12_init_216 : decode cX12_init 216 = .ok (.bipush 7, 2) := by decide +kernel
theorem dX12_init_218 : decode cX12_init 218 = .ok (.newarray .int, 2) := by decide +kernel
theorem dX12_init_220 : decode cX12_init 220 = .ok (.putfield 93, 3) := by decide +kernel
theorem dX12_init_223 : decode cX12_init 223 = .ok (.aload_n 0, 1) := by decide +kernel
theorem dX12_init_224 : decode cX12_init 224 = .ok (.iconst 5, 1) := by decide +kernel
theorem dX12_init_225 : decode cX12_init 225 = .ok (.newarray .int, 2) := by decide +kernel
theorem dX12_init_227 : decode cX12_init 227 = .ok (.putfield 96, 3) := by decide +kernel
theorem dX12_init_230 : decode cX12_init 230 = .ok (.aload_n 0, 1) := by decide +kernel
theorem dX12_init_231 : decode cX12_init 231 = .ok (.bipush 50, 2) := by decide +kernel
theorem dX12_init_233 : decode cX12_init 233 = .ok (.newarray .int, 2) := by decide +kernel
theorem dX12_init_235 : decode cX12_init 235 = .ok (.putfield 99, 3) := by decide +kernel
theorem dX12_init_238 : decode cX12_init 238 = .ok (.aload_n 0, 1) := by decide +kernel
theorem dX12_init_239 : decode cX12_init 239 = .ok (.bipush 24, 2) := by decide +kernel
theorem dX12_init_241 : decode cX12_init 241 = .ok (.newarray .int, 2) := by decide +kernel
theorem dX12_init_243 : decode cX12_init 243 = .ok (.putfield 102, 3) := by decide +kernel
theorem dX12_init_246 : decode cX12_init 246 = .ok (.aload_n 0, 1) := by decide +kernel
theorem dX12_init_247 : decode cX12_init 247 = .ok (.bipush 6, 2) := by decide +kernel
theorem dX12_init_249 : decode cX12_init 249 = .ok (.newarray .int, 2) := by decide +kernel
theorem dX12_init_251 : decode cX12_init 251 = .ok (.dup, 1) := by decide +kernel
theorem dX12_init_252 : decode cX12_init 252 = .ok (.iconst 0, 1) := by decide +kernel
theorem dX12_init_253 : decode cX12_init 253 = .ok (.iconst (-1), 1) := by decide +kernel
theorem dX12_init_254 : decode cX12_init 254 = .ok (.iastore, 1) := by decide +kernel
theorem dX12_init_255 : decode cX12_init 255 = .ok (.dup, 1) := by decide +kernel
theorem dX12_init_256 : decode cX12_init 256 = .ok (.iconst 1, 1) := by decide +kernel
theorem dX12_init_257 : decode cX12_init 257 = .ok (.iconst (-1), 1) := by decide +kernel
theorem dX12_init_258 : decode cX12_init 258 = .ok (.iastore, 1) := by decide +kernel
theorem dX12_init_259 : decode cX12_init 259 = .ok (.dup, 1) := by decide +kernel
theorem dX12_init_260 : decode cX12_init 260 = .ok (.iconst 2, 1) := by decide +kernel
theorem dX12_init_261 : decode cX12_init 261 = .ok (.iconst (-1), 1) := by decide +kernel
theorem dX12_init_262 : decode cX12_init 262 = .ok (.iastore, 1) := by decide +kernel
theorem dX12_init_263 : decode cX12_init 263 = .ok (.dup, 1) := by decide +kernel
theorem dX12_init_264 : decode cX12_init 264 = .ok (.iconst 3, 1) := by decide +kernel
theorem dX12_init_265 : decode cX12_init 265 = .ok (.iconst (-1), 1) := by decide +kernel
theorem dX12_init_266 : decode cX12_init 266 = .ok (.iastore, 1) := by decide +kernel
theorem dX12_init_267 : decode cX12_init 267 = .ok (.dup, 1) := by decide +kernel
theorem dX12_init_268 : decode cX12_init 268 = .ok (.iconst 4, 1) := by decide +kernel
theorem dX12_init_269 : decode cX12_init 269 = .ok (.iconst (-1), 1) := by decide +kernel
theorem dX12_init_270 : decode cX12_init 270 = .ok (.iastore, 1) := by decide +kernel
theorem dX12_init_271 : decode cX12_init 271 = .ok (.dup, 1) := by decide +kernel
theorem dX12_init_272 : decode cX12_init 272 = .ok (.iconst 5, 1) := by decide +kernel
theorem dX12_init_273 : decode cX12_init 273 = .ok (.iconst (-1), 1) := by decide +kernel
theorem dX12_init_274 : decode cX12_init 274 = .ok (.iastore, 1) := by decide +kernel
theorem dX12_init_275 : decode cX12_init 275 = .ok (.putfield 105, 3) := by decide +kernel
theorem dX12_init_278 : decode cX12_init 278 = .ok (.aload_n 0, 1) := by decide +kernel
theorem dX12_init_279 : decode cX12_init 279 = .ok (.bipush 6, 2) := by decide +kernel
theorem dX12_init_281 : decode cX12_init 281 = .ok (.newarray .int, 2) := by decide +kernel
theorem dX12_init_283 : decode cX12_init 283 = .ok (.putfield 108, 3) := by decide +kernel
theorem dX12_init_286 : decode cX12_init 286 = .ok (.aload_n 0, 1) := by decide +kernel
theorem dX12_init_287 : decode cX12_init 287 = .ok (.sipush 360, 3) := by decide +kernel
theorem dX12_init_290 : decode cX12_init 290 = .ok (.newarray .long, 2) := by decide +kernel
theorem dX12_init_292 : decode cX12_init 292 = .ok (.putfield 111, 3) := by decide +kernel
theorem dX12_init_295 : decode cX12_init 295 = .ok (.aload_n 0, 1) := by decide +kernel
theorem dX12_init_296 : decode cX12_init 296 = .ok (.bipush 60, 2) := by decide +kernel
theorem dX12_init_298 : decode cX12_init 298 = .ok (.newarray .long, 2) := by decide +kernel
theorem dX12_init_300 : decode cX12_init 300 = .ok (.putfield 115, 3) := by decide +kernel
theorem dX12_init_303 : decode cX12_init 303 = .ok (.return_, 1) := by decide +kernel
theorem dX12_in_0 : decode cX12_in 0 = .ok (.iload_n 0, 1) := by decide +kernel
theorem dX12_in_1 : decode cX12_in 1 = .ok (.iload_n 1, 1) := by decide +kernel
theorem dX12_in_2 : decode cX12_in 2 = .ok (.if_icmp .lt 12, 3) := by decide +kernel
theorem dX12_in_5 : decode cX12_in 5 = .ok (.iload_n 0, 1) := by decide +kernel
theorem dX12_in_6 : decode cX12_in 6 = .ok (.iload_n 2, 1) := by decide +kernel
theorem dX12_in_7 : decode cX12_in 7 = .ok (.if_icmp .gt 7, 3) := by decide +kernel
theorem dX12_in_10 : decode cX12_in 10 = .ok (.iconst 1, 1) := by decide +kernel
theorem dX12_in_11 : decode cX12_in 11 = .ok (.goto 4, 3) := by decide +kernel
theorem dX12_in_14 : decode cX12_in 14 = .ok (.iconst 0, 1) := by decide +kernel
theorem dX12_in_15 : decode cX12_in 15 = .ok (.ireturn, 1) := by decide +kernel
theorem dX12_isPerson_0 : decode cX12_isPerson 0 = .ok (.iload_n 1, 1) := by decide +kernel
theorem dX12_isPerson_1 : decode cX12_isPerson 1 = .ok (.iconst 0, 1) := by decide +kernel
theorem dX12_isPerson_2 : decode cX12_isPerson 2 = .ok (.aload_n 0, 1) := by decide +kernel
theorem dX12_isPerson_3 : decode cX12_isPerson 3 = .ok (.getfield 122, 3) := by decide +kernel
theorem dX12_isPerson_6 : decode cX12_isPerson 6 = .ok (.iconst 1, 1) := by decide +kernel
theorem dX12_isPerson_7 : decode cX12_isPerson 7 = .ok (.isub, 1) := by decide +kernel
theorem dX12_isPerson_8 : decode cX12_isPerson 8 = .ok (.invokestatic 125, 3) := by decide +kernel
theorem dX12_isPerson_11 : decode cX12_isPerson 11 = .ok (.ireturn, 1) := by decide +kernel
theorem dX12_areTwo_0 : decode cX12_areTwo 0 = .ok (.iload_n 1, 1) := by decide +kernel
theorem dX12_areTwo_1 : decode cX12_areTwo 1 = .ok (.ifCond .lt 40, 3) := by decide +kernel
theorem dX12_areTwo_4 : decode cX12_areTwo 4 = .ok (.aload_n 0, 1) := by decide +kernel
theorem dX12_areTwo_5 : decode cX12_areTwo 5 = .ok (.iload_n 1, 1) := by decide +kernel
theorem dX12_areTwo_6 : decode cX12_areTwo 6 = .ok (.bipush 10, 2) := by decide +kernel
theorem dX12_areTwo_8 : decode cX12_areTwo 8 = .ok (.idiv, 1) := by decide +kernel
theorem dX12_areTwo_9 : decode cX12_areTwo 9 = .ok (.invokevirtual 129, 3) := by decide +kernel
theorem dX12_areTwo_12 : decode cX12_areTwo 12 = .ok (.ifCond .eq 29, 3) := by decide +kernel
theorem dX12_areTwo_15 : decode cX12_areTwo 15 = .ok (.aload_n 0, 1) := by decide +kernel
theorem dX12_areTwo_16 : decode cX12_areTwo 16 = .ok (.iload_n 1, 1) := by decide +kernel
theorem dX12_areTwo_17 : decode cX12_areTwo 17 = .ok (.bipush 10, 2) := by decide +kernel
theorem dX12_areTwo_19 : decode cX12_areTwo 19 = .ok (.irem, 1) := by decide +kernel
theorem dX12_areTwo_20 : decode cX12_areTwo 20 = .ok (.invokevirtual 129, 3) := by decide +kernel
theorem dX12_areTwo_23 : decode cX12_areTwo 23 = .ok (.ifCond .eq 18, 3) := by decide +kernel
theorem dX12_areTwo_26 : decode cX12_areTwo 26 = .ok (.iload_n 1, 1) := by decide +kernel
theorem dX12_areTwo_27 : decode cX12_areTwo 27 = .ok (.bipush 10, 2) := by decide +kernel
theorem dX12_areTwo_29 : decode cX12_areTwo 29 = .ok (.idiv, 1) := by decide +kernel
theorem dX12_areTwo_30 : decode cX12_areTwo 30 = .ok (.iload_n 1, 1) := by decide +kernel
theorem dX12_areTwo_31 : decode cX12_areTwo 31 = .ok (.bipush 10, 2) := by decide +kernel
theorem dX12_areTwo_33 : decode cX12_areTwo 33 = .ok (.irem, 1) := by decide +kernel
theorem dX12_areTwo_34 : decode cX12_areTwo 34 = .ok (.if_icmp .eq 7, 3) := by decide +kernel
theorem dX12_areTwo_37 : decode cX12_areTwo 37 = .ok (.iconst 1, 1) := by decide +kernel
theorem dX12_areTwo_38 : decode cX12_areTwo 38 = .ok (.goto 4, 3) := by decide +kernel
theorem dX12_areTwo_41 : decode cX12_areTwo 41 = .ok (.iconst 0, 1) := by decide +kernel
theorem dX12_areTwo_42 : decode cX12_areTwo 42 = .ok (.ireturn, 1) := by decide +kernel
theorem dX12_addPerson_0 : decode cX12_addPerson 0 = .ok (.aload_n 0, 1) := by decide +kernel
theorem dX12_addPerson_1 : decode cX12_addPerson 1 = .ok (.getfield 9, 3) := by decide +kernel
theorem dX12_addPerson_4 : decode cX12_addPerson 4 = .ok (.aload_n 0, 1) := by decide +kernel
theorem dX12_addPerson_5 : decode cX12_addPerson 5 = .ok (.getfield 122, 3) := by decide +kernel
theorem dX12_addPerson_8 : decode cX12_addPerson 8 = .ok (.iload_n 1, 1) := by decide +kernel
theorem dX12_addPerson_9 : decode cX12_addPerson 9 = .ok (.iastore, 1) := by decide +kernel
theorem dX12_addPerson_10 : decode cX12_addPerson 10 = .ok (.aload_n 0, 1) := by decide +kernel
theorem dX12_addPerson_11 : decode cX12_addPerson 11 = .ok (.getfield 15, 3) := by decide +kernel
theorem dX12_addPerson_14 : decode cX12_addPerson 14 = .ok (.aload_n 0, 1) := by decide +kernel
theorem dX12_addPerson_15 : decode cX12_addPerson 15 = .ok (.getfield 122, 3) := by decide +kernel
theorem dX12_addPerson_18 : decode cX12_addPerson 18 = .ok (.iload_n 2, 1) := by decide +kernel
theorem dX12_addPerson_19 : decode cX12_addPerson 19 = .ok (.iastore, 1) := by decide +kernel
theorem dX12_addPerson_20 : decode cX12_addPerson 20 = .ok (.aload_n 0, 1) := by decide +kernel
theorem dX12_addPerson_21 : decode cX12_addPerson 21 = .ok (.getfield 18, 3) := by decide +kernel
theorem dX12_addPerson_24 : decode cX12_addPerson 24 = .ok (.aload_n 0, 1) := by decide +kernel
theorem dX12_addPerson_25 : decode cX12_addPerson 25 = .ok (.getfield 122, 3) := by decide +kernel
theorem dX12_addPerson_28 : decode cX12_addPerson 28 = .ok (.iload_n 3, 1) := by decide +kernel
theorem dX12_addPerson_29 : decode cX12_addPerson 29 = .ok (.iastore, 1) := by decide +kernel
theorem dX12_addPerson_30 : decode cX12_addPerson 30 = .ok (.aload_n 0, 1) := by decide +kernel
theorem dX12_addPerson_31 : decode cX12_addPerson 31 = .ok (.getfield 21, 3) := by decide +kernel
theorem dX12_addPerson_34 : decode cX12_addPerson 34 = .ok (.aload_n 0, 1) := by decide +kernel
theorem dX12_addPerson_35 : decode cX12_addPerson 35 = .ok (.getfield 122, 3) := by decide +kernel
theorem dX12_addPerson_38 : decode cX12_addPerson 38 = .ok (.iconst 5, 1) := by decide +kernel
theorem dX12_addPerson_39 : decode cX12_addPerson 39 = .ok (.iastore, 1) := by decide +kernel
theorem dX12_addPerson_40 : decode cX12_addPerson 40 = .ok (.aload_n 0, 1) := by decide +kernel
theorem dX12_addPerson_41 : decode cX12_addPerson 41 = .ok (.getfield 65, 3) := by decide +kernel
theorem dX12_addPerson_44 : decode cX12_addPerson 44 = .ok (.aload_n 0, 1) := by decide +kernel
theorem dX12_addPerson_45 : decode cX12_addPerson 45 = .ok (.getfield 122, 3) := by decide +kernel
theorem dX12_addPerson_48 : decode cX12_addPerson 48 = .ok (.iconst (-1), 1) := by decide +kernel
theorem dX12_addPerson_49 : decode cX12_addPerson 49 = .ok (.iastore, 1) := by decide +kernel
theorem dX12_addPerson_50 : decode cX12_addPerson 50 = .ok (.aload_n 0, 1) := by decide +kernel
theorem dX12_addPerson_51 : decode cX12_addPerson 51 = .ok (.dup, 1) := by decide +kernel
theorem dX12_addPerson_52 : decode cX12_addPerson 52 = .ok (.getfield 122, 3) := by decide +kernel
theorem dX12_addPerson_55 : decode cX12_addPerson 55 = .ok (.iconst 1, 1) := by decide +kernel
theorem dX12_addPerson_56 : decode cX12_addPerson 56 = .ok (.iadd, 1) := by decide +kernel
theorem dX12_addPerson_57 : decode cX12_addPerson 57 = .ok (.putfield 122, 3) := by decide +kernel
theorem dX12_addPerson_60 : decode cX12_addPerson 60 = .ok (.aload_n 0, 1) := by decide +kernel
theorem dX12_addPerson_61 : decode cX12_addPerson 61 = .ok (.getfield 122, 3) := by decide +kernel
theorem dX12_addPerson_64 : decode cX12_addPerson 64 = .ok (.iconst 1, 1) := by decide +kernel
theorem dX12_addPerson_65 : decode cX12_addPerson 65 = .ok (.isub, 1) := by decide +kernel
theorem dX12_addPerson_66 : decode cX12_addPerson 66 = .ok (.ireturn, 1) := by decide +kernel
theorem dX12_person_0 : decode cX12_person 0 = .ok (.iload_n 1, 1) := by decide +kernel
theorem dX12_person_1 : decode cX12_person 1 = .ok (.iconst 0, 1) := by decide +kernel
theorem dX12_person_2 : decode cX12_person 2 = .ok (.bipush 9, 2) := by decide +kernel
theorem dX12_person_4 : decode cX12_person 4 = .ok (.invokestatic 125, 3) := by decide +kernel
theorem dX12_person_7 : decode cX12_person 7 = .ok (.ifCond .eq 13, 3) := by decide +kernel
theorem dX12_person_10 : decode cX12_person 10 = .ok (.iload_n 2, 1) := by decide +kernel
theorem dX12_person_11 : decode cX12_person 11 = .ok (.iconst 0, 1) := by decide +kernel
theorem dX12_person_12 : decode cX12_person 12 = .ok (.bipush 9, 2) := by decide +kernel
theorem dX12_person_14 : decode cX12_person 14 = .ok (.invokestatic 125, 3) := by decide +kernel
theorem dX12_person_17 : decode cX12_person 17 = .ok (.ifCond .ne 5, 3) := by decide +kernel
theorem dX12_person_20 : decode cX12_person 20 = .ok (.iconst (-1), 1) := by decide +kernel
theorem dX12_person_21 : decode cX12_person 21 = .ok (.ireturn, 1) := by decide +kernel
theorem dX12_person_22 : decode cX12_person 22 = .ok (.aload_n 0, 1) := by decide +kernel
theorem dX12_person_23 : decode cX12_person 23 = .ok (.getfield 122, 3) := by decide +kernel
theorem dX12_person_26 : decode cX12_person 26 = .ok (.bipush 7, 2) := by decide +kernel
theorem dX12_person_28 : decode cX12_person 28 = .ok (.if_icmp .ne 8, 3) := by decide +kernel
theorem dX12_person_31 : decode cX12_person 31 = .ok (.bipush (-3), 2) := by decide +kernel
theorem dX12_person_33 : decode cX12_person 33 = .ok (.goto 13, 3) := by decide +kernel
theorem dX12_person_36 : decode cX12_person 36 = .ok (.aload_n 0, 1) := by decide +kernel
theorem dX12_person_37 : decode cX12_person 37 = .ok (.iload_n 1, 1) := by decide +kernel
theorem dX12_person_38 : decode cX12_person 38 = .ok (.iload_n 2, 1) := by decide +kernel
theorem dX12_person_39 : decode cX12_person 39 = .ok (.aload_n 0, 1) := by decide +kernel
theorem dX12_person_40 : decode cX12_person 40 = .ok (.getfield 122, 3) := by decide +kernel
theorem dX12_person_43 : decode cX12_person 43 = .ok (.invokevirtual 133, 3) := by decide +kernel
theorem dX12_person_46 : decode cX12_person 46 = .ok (.ireturn, 1) := by decide +kernel
theorem dX12_people_0 : decode cX12_people 0 = .ok (.iload_n 1, 1) := by decide +kernel
theorem dX12_people_1 : decode cX12_people 1 = .ok (.invokestatic 137, 3) := by decide +kernel
theorem dX12_people_4 : decode cX12_people 4 = .ok (.ifCond .eq 13, 3) := by decide +kernel
theorem dX12_people_7 : decode cX12_people 7 = .ok (.iload_n 3, 1) := by decide +kernel
theorem dX12_people_8 : decode cX12_people 8 = .ok (.iconst 1, 1) := by decide +kernel
theorem dX12_people_9 : decode cX12_people 9 = .ok (.bipush 7, 2) := by decide +kernel
theorem dX12_people_11 : decode cX12_people 11 = .ok (.invokestatic 125, 3) := by decide +kernel
theorem dX12_people_14 : decode cX12_people 14 = .ok (.ifCond .ne 5, 3) := by decide +kernel
theorem dX12_people_17 : decode cX12_people 17 = .ok (.iconst (-1), 1) := by decide +kernel
theorem dX12_people_18 : decode cX12_people 18 = .ok (.ireturn, 1) := by decide +kernel
theorem dX12_people_19 : decode cX12_people 19 = .ok (.aload_n 0, 1) := by decide +kernel
theorem dX12_people_20 : decode cX12_people 20 = .ok (.getfield 105, 3) := by decide +kernel
theorem dX12_people_23 : decode cX12_people 23 = .ok (.iload_n 1, 1) := by decide +kernel
theorem dX12_people_24 : decode cX12_people 24 = .ok (.iaload, 1) := by decide +kernel
theorem dX12_people_25 : decode cX12_people 25 = .ok (.iconst (-1), 1) := by decide +kernel
theorem dX12_people_26 : decode cX12_people 26 = .ok (.if_icmp .eq 17, 3) := by decide +kernel
theorem dX12_people_29 : decode cX12_people 29 = .ok (.aload_n 0, 1) := by decide +kernel
theorem dX12_people_30 : decode cX12_people 30 = .ok (.getfield 105, 3) := by decide +kernel
theorem dX12_people_33 : decode cX12_people 33 = .ok (.iload_n 1, 1) := by decide +kernel
theorem dX12_people_34 : decode cX12_people 34 = .ok (.iaload, 1) := by decide +kernel
theorem dX12_people_35 : decode cX12_people 35 = .ok (.bipush (-2), 2) := by decide +kernel
theorem dX12_people_37 : decode cX12_people 37 = .ok (.if_icmp .eq 6, 3) := by decide +kernel
theorem dX12_people_40 : decode cX12_people 40 = .ok (.bipush (-12), 2) := by decide +kernel
theorem dX12_people_42 : decode cX12_people 42 = .ok (.ireturn, 1) := by decide +kernel
theorem dX12_people_43 : decode cX12_people 43 = .ok (.aload_n 0, 1) := by decide +kernel
theorem dX12_people_44 : decode cX12_people 44 = .ok (.getfield 105, 3) := by decide +kernel
theorem dX12_people_47 : decode cX12_people 47 = .ok (.iload_n 1, 1) := by decide +kernel
theorem dX12_people_48 : decode cX12_people 48 = .ok (.iaload, 1) := by decide +kernel
theorem dX12_people_49 : decode cX12_people 49 = .ok (.iconst (-1), 1) := by decide +kernel
theorem dX12_people_50 : decode cX12_people 50 = .ok (.if_icmp .ne 5, 3) := by decide +kernel
theorem dX12_people_53 : decode cX12_people 53 = .ok (.iconst 0, 1) := by decide +kernel
theorem dX12_people_54 : decode cX12_people 54 = .ok (.ireturn, 1) := by decide +kernel
theorem dX12_people_55 : decode cX12_people 55 = .ok (.iconst 0, 1) := by decide +kernel
theorem dX12_people_56 : decode cX12_people 56 = .ok (.istore 4, 2) := by decide +kernel
theorem dX12_people_58 : decode cX12_people 58 = .ok (.iload 4, 2) := by decide +kernel
theorem dX12_people_60 : decode cX12_people 60 = .ok (.iload_n 3, 1) := by decide +kernel
theorem dX12_people_61 : decode cX12_people 61 = .ok (.if_icmp .ge 156, 3) := by decide +kernel
theorem dX12_people_64 : decode cX12_people 64 = .ok (.iload_n 2, 1) := by decide +kernel
theorem dX12_people_65 : decode cX12_people 65 = .ok (.i2l, 1) := by decide +kernel
theorem dX12_people_66 : decode cX12_people 66 = .ok (.iconst 3, 1) := by decide +kernel
theorem dX12_people_67 : decode cX12_people 67 = .ok (.iload 4, 2) := by decide +kernel
theorem dX12_people_69 : decode cX12_people 69 = .ok (.imul, 1) := by decide +kernel
theorem dX12_people_70 : decode cX12_people 70 = .ok (.i2l, 1) := by decide +kernel
theorem dX12_people_71 : decode cX12_people 71 = .ok (.ladd, 1) := by decide +kernel
theorem dX12_people_72 : decode cX12_people 72 = .ok (.lstore 5, 2) := by decide +kernel
theorem dX12_people_74 : decode cX12_people 74 = .ok (.lload 5, 2) := by decide +kernel
theorem dX12_people_76 : decode cX12_people 76 = .ok (.lconst 0, 1) := by decide +kernel
theorem dX12_people_77 : decode cX12_people 77 = .ok (.lcmp, 1) := by decide +kernel
theorem dX12_people_78 : decode cX12_people 78 = .ok (.ifCond .lt 29, 3) := by decide +kernel
theorem dX12_people_81 : decode cX12_people 81 = .ok (.lload 5, 2) := by decide +kernel
theorem dX12_people_83 : decode cX12_people 83 = .ok (.ldc2_w 140, 3) := by decide +kernel
theorem dX12_people_86 : decode cX12_people 86 = .ok (.ladd, 1) := by decide +kernel
theorem dX12_people_87 : decode cX12_people 87 = .ok (.aload_n 0, 1) := by decide +kernel
theorem dX12_people_88 : decode cX12_people 88 = .ok (.getfield 108, 3) := by decide +kernel
theorem dX12_people_91 : decode cX12_people 91 = .ok (.iload_n 1, 1) := by decide +kernel
theorem dX12_people_92 : decode cX12_people 92 = .ok (.iaload, 1) := by decide +kernel
theorem dX12_people_93 : decode cX12_people 93 = .ok (.i2l, 1) := by decide +kernel
theorem dX12_people_94 : decode cX12_people 94 = .ok (.lcmp, 1) := by decide +kernel
theorem dX12_people_95 : decode cX12_people 95 = .ok (.ifCond .ge 12, 3) := by decide +kernel
theorem dX12_people_98 : decode cX12_people 98 = .ok (.aload_n 0, 1) := by decide +kernel
theorem dX12_people_99 : decode cX12_people 99 = .ok (.getfield 122, 3) := by decide +kernel
theorem dX12_people_102 : decode cX12_people 102 = .ok (.bipush 7, 2) := by decide +kernel
theorem dX12_people_104 : decode cX12_people 104 = .ok (.if_icmp .ne 6, 3) := by decide +kernel
theorem dX12_people_107 : decode cX12_people 107 = .ok (.iload 4, 2) := by decide +kernel
theorem dX12_people_109 : decode cX12_people 109 = .ok (.ireturn, 1) := by decide +kernel
theorem dX12_people_110 : decode cX12_people 110 = .ok (.bipush 60, 2) := by decide +kernel
theorem dX12_people_112 : decode cX12_people 112 = .ok (.iload_n 1, 1) := by decide +kernel
theorem dX12_people_113 : decode cX12_people 113 = .ok (.imul, 1) := by decide +kernel
theorem dX12_people_114 : decode cX12_people 114 = .ok (.lload 5, 2) := by decide +kernel
theorem dX12_people_116 : decode cX12_people 116 = .ok (.l2i, 1) := by decide +kernel
theorem dX12_people_117 : decode cX12_people 117 = .ok (.iadd, 1) := by decide +kernel
theorem dX12_people_118 : decode cX12_people 118 = .ok (.istore 7, 2) := by decide +kernel
theorem dX12_people_120 : decode cX12_people 120 = .ok (.aload_n 0, 1) := by decide +kernel
theorem dX12_people_121 : decode cX12_people 121 = .ok (.getfield 111, 3) := by decide +kernel
theorem dX12_people_124 : decode cX12_people 124 = .ok (.iload 7, 2) := by decide +kernel
theorem dX12_people_126 : decode cX12_people 126 = .ok (.laload, 1) := by decide +kernel
theorem dX12_people_127 : decode cX12_people 127 = .ok (.l2i, 1) := by decide +kernel
theorem dX12_people_128 : decode cX12_people 128 = .ok (.iconst 0, 1) := by decide +kernel
theorem dX12_people_129 : decode cX12_people 129 = .ok (.bipush 9, 2) := by decide +kernel
theorem dX12_people_131 : decode cX12_people 131 = .ok (.invokestatic 125, 3) := by decide +kernel
theorem dX12_people_134 : decode cX12_people 134 = .ok (.ifCond .eq 41, 3) := by decide +kernel
theorem dX12_people_137 : decode cX12_people 137 = .ok (.aload_n 0, 1) := by decide +kernel
theorem dX12_people_138 : decode cX12_people 138 = .ok (.getfield 111, 3) := by decide +kernel
theorem dX12_people_141 : decode cX12_people 141 = .ok (.iload 7, 2) := by decide +kernel
theorem dX12_people_143 : decode cX12_people 143 = .ok (.iconst 1, 1) := by decide +kernel
theorem dX12_people_144 : decode cX12_people 144 = .ok (.iadd, 1) := by decide +kernel
theorem dX12_people_145 : decode cX12_people 145 = .ok (.laload, 1) := by decide +kernel
theorem dX12_people_146 : decode cX12_people 146 = .ok (.l2i, 1) := by decide +kernel
theorem dX12_people_147 : decode cX12_people 147 = .ok (.iconst 0, 1) := by decide +kernel
theorem dX12_people_148 : decode cX12_people 148 = .ok (.bipush 9, 2) := by decide +kernel
theorem dX12_people_150 : decode cX12_people 150 = .ok (.invokestatic 125, 3) := by decide +kernel
theorem dX12_people_153 : decode cX12_people 153 = .ok (.ifCond .eq 22, 3) := by decide +kernel
theorem dX12_people_156 : decode cX12_people 156 = .ok (.aload_n 0, 1) := by decide +kernel
theorem dX12_people_157 : decode cX12_people 157 = .ok (.getfield 111, 3) := by decide +kernel
theorem dX12_people_160 : decode cX12_people 160 = .ok (.iload 7, 2) := by decide +kernel
theorem dX12_people_162 : decode cX12_people 162 = .ok (.iconst 2, 1) := by decide +kernel
theorem dX12_people_163 : decode cX12_people 163 = .ok (.iadd, 1) := by decide +kernel
theorem dX12_people_164 : decode cX12_people 164 = .ok (.laload, 1) := by decide +kernel
theorem dX12_people_165 : decode cX12_people 165 = .ok (.l2i, 1) := by decide +kernel
theorem dX12_people_166 : decode cX12_people 166 = .ok (.iconst 0, 1) := by decide +kernel
theorem dX12_people_167 : decode cX12_people 167 = .ok (.bipush 6, 2) := by decide +kernel
theorem dX12_people_169 : decode cX12_people 169 = .ok (.invokestatic 125, 3) := by decide +kernel
theorem dX12_people_172 : decode cX12_people 172 = .ok (.ifCond .ne 6, 3) := by decide +kernel
theorem dX12_people_175 : decode cX12_people 175 = .ok (.iload 4, 2) := by decide +kernel
theorem dX12_people_177 : decode cX12_people 177 = .ok (.ireturn, 1) := by decide +kernel
theorem dX12_people_178 : decode cX12_people 178 = .ok (.aload_n 0, 1) := by decide +kernel
theorem dX12_people_179 : decode cX12_people 179 = .ok (.aload_n 0, 1) := by decide +kernel
theorem dX12_people_180 : decode cX12_people 180 = .ok (.getfield 111, 3) := by decide +kernel
theorem dX12_people_183 : decode cX12_people 183 = .ok (.iload 7, 2) := by decide +kernel
theorem dX12_people_185 : decode cX12_people 185 = .ok (.laload, 1) := by decide +kernel
theorem dX12_people_186 : decode cX12_people 186 = .ok (.l2i, 1) := by decide +kernel
theorem dX12_people_187 : decode cX12_people 187 = .ok (.aload_n 0, 1) := by decide +kernel
theorem dX12_people_188 : decode cX12_people 188 = .ok (.getfield 111, 3) := by decide +kernel
theorem dX12_people_191 : decode cX12_people 191 = .ok (.iload 7, 2) := by decide +kernel
theorem dX12_people_193 : decode cX12_people 193 = .ok (.iconst 1, 1) := by decide +kernel
theorem dX12_people_194 : decode cX12_people 194 = .ok (.iadd, 1) := by decide +kernel
theorem dX12_people_195 : decode cX12_people 195 = .ok (.laload, 1) := by decide +kernel
theorem dX12_people_196 : decode cX12_people 196 = .ok (.l2i, 1) := by decide +kernel
theorem dX12_people_197 : decode cX12_people 197 = .ok (.aload_n 0, 1) := by decide +kernel
theorem dX12_people_198 : decode cX12_people 198 = .ok (.getfield 111, 3) := by decide +kernel
theorem dX12_people_201 : decode cX12_people 201 = .ok (.iload 7, 2) := by decide +kernel
theorem dX12_people_203 : decode cX12_people 203 = .ok (.iconst 2, 1) := by decide +kernel
theorem dX12_people_204 : decode cX12_people 204 = .ok (.iadd, 1) := by decide +kernel
theorem dX12_people_205 : decode cX12_people 205 = .ok (.laload, 1) := by decide +kernel
theorem dX12_people_206 : decode cX12_people 206 = .ok (.l2i, 1) := by decide +kernel
theorem dX12_people_207 : decode cX12_people 207 = .ok (.invokevirtual 133, 3) := by decide +kernel
theorem dX12_people_210 : decode cX12_people 210 = .ok (.pop, 1) := by decide +kernel
theorem dX12_people_211 : decode cX12_people 211 = .ok (.iinc 4 1, 3) := by decide +kernel
theorem dX12_people_214 : decode cX12_people 214 = .ok (.goto (-156), 3) := by decide +kernel
theorem dX12_people_217 : decode cX12_people 217 = .ok (.iload_n 3, 1) := by decide +kernel
theorem dX12_people_218 : decode cX12_people 218 = .ok (.ireturn, 1) := by decide +kernel
theorem dX12_valueAt_0 : decode cX12_valueAt 0 = .ok (.iload_n 1, 1) := by decide +kernel
theorem dX12_valueAt_1 : decode cX12_valueAt 1 = .ok (.tableswitch 48 0 2 #[27, 34, 41], 27) := by decide +kernel
theorem dX12_valueAt_28 : decode cX12_valueAt 28 = .ok (.aload_n 0, 1) := by decide +kernel
theorem dX12_valueAt_29 : decode cX12_valueAt 29 = .ok (.getfield 9, 3) := by decide +kernel
theorem dX12_valueAt_32 : decode cX12_valueAt 32 = .ok (.iload_n 2, 1) := by decide +kernel
theorem dX12_valueAt_33 : decode cX12_valueAt 33 = .ok (.iaload, 1) := by decide +kernel
theorem dX12_valueAt_34 : decode cX12_valueAt 34 = .ok (.ireturn, 1) := by decide +kernel
theorem dX12_valueAt_35 : decode cX12_valueAt 35 = .ok (.aload_n 0, 1) := by decide +kernel
theorem dX12_valueAt_36 : decode cX12_valueAt 36 = .ok (.getfield 15, 3) := by decide +kernel
theorem dX12_valueAt_39 : decode cX12_valueAt 39 = .ok (.iload_n 2, 1) := by decide +kernel
theorem dX12_valueAt_40 : decode cX12_valueAt 40 = .ok (.iaload, 1) := by decide +kernel
theorem dX12_valueAt_41 : decode cX12_valueAt 41 = .ok (.ireturn, 1) := by decide +kernel
theorem dX12_valueAt_42 : decode cX12_valueAt 42 = .ok (.aload_n 0, 1) := by decide +kernel
theorem dX12_valueAt_43 : decode cX12_valueAt 43 = .ok (.getfield 18, 3) := by decide +kernel
theorem dX12_valueAt_46 : decode cX12_valueAt 46 = .ok (.iload_n 2, 1) := by decide +kernel
theorem dX12_valueAt_47 : decode cX12_valueAt 47 = .ok (.iaload, 1) := by decide +kernel
theorem dX12_valueAt_48 : decode cX12_valueAt 48 = .ok (.ireturn, 1) := by decide +kernel
theorem dX12_valueAt_49 : decode cX12_valueAt 49 = .ok (.aload_n 0, 1) := by decide +kernel
theorem dX12_valueAt_50 : decode cX12_valueAt 50 = .ok (.getfield 21, 3) := by decide +kernel
theorem dX12_valueAt_53 : decode cX12_valueAt 53 = .ok (.iload_n 2, 1) := by decide +kernel
theorem dX12_valueAt_54 : decode cX12_valueAt 54 = .ok (.iaload, 1) := by decide +kernel
theorem dX12_valueAt_55 : decode cX12_valueAt 55 = .ok (.ireturn, 1) := by decide +kernel
theorem dX12_lays_0 : decode cX12_lays 0 = .ok (.iload_n 1, 1) := by decide +kernel
theorem dX12_lays_1 : decode cX12_lays 1 = .ok (.tableswitch 57 0 2 #[27, 37, 47], 27) := by decide +kernel
theorem dX12_lays_28 : decode cX12_lays 28 = .ok (.aload_n 0, 1) := by decide +kernel
theorem dX12_lays_29 : decode cX12_lays 29 = .ok (.getfield 9, 3) := by decide +kernel
theorem dX12_lays_32 : decode cX12_lays 32 = .ok (.iload_n 2, 1) := by decide +kernel
theorem dX12_lays_33 : decode cX12_lays 33 = .ok (.iload_n 3, 1) := by decide +kernel
theorem dX12_lays_34 : decode cX12_lays 34 = .ok (.iastore, 1) := by decide +kernel
theorem dX12_lays_35 : decode cX12_lays 35 = .ok (.goto 30, 3) := by decide +kernel
theorem dX12_lays_38 : decode cX12_lays 38 = .ok (.aload_n 0, 1) := by decide +kernel
theorem dX12_lays_39 : decode cX12_lays 39 = .ok (.getfield 15, 3) := by decide +kernel
theorem dX12_lays_42 : decode cX12_lays 42 = .ok (.iload_n 2, 1) := by decide +kernel
theorem dX12_lays_43 : decode cX12_lays 43 = .ok (.iload_n 3, 1) := by decide +kernel
theorem dX12_lays_44 : decode cX12_lays 44 = .ok (.iastore, 1) := by decide +kernel
theorem dX12_lays_45 : decode cX12_lays 45 = .ok (.goto 20, 3) := by decide +kernel
theorem dX12_lays_48 : decode cX12_lays 48 = .ok (.aload_n 0, 1) := by decide +kernel
theorem dX12_lays_49 : decode cX12_lays 49 = .ok (.getfield 18, 3) := by decide +kernel
theorem dX12_lays_52 : decode cX12_lays 52 = .ok (.iload_n 2, 1) := by decide +kernel
theorem dX12_lays_53 : decode cX12_lays 53 = .ok (.iload_n 3, 1) := by decide +kernel
theorem dX12_lays_54 : decode cX12_lays 54 = .ok (.iastore, 1) := by decide +kernel
theorem dX12_lays_55 : decode cX12_lays 55 = .ok (.goto 10, 3) := by decide +kernel
theorem dX12_lays_58 : decode cX12_lays 58 = .ok (.aload_n 0, 1) := by decide +kernel
theorem dX12_lays_59 : decode cX12_lays 59 = .ok (.getfield 21, 3) := by decide +kernel
theorem dX12_lays_62 : decode cX12_lays 62 = .ok (.iload_n 2, 1) := by decide +kernel
theorem dX12_lays_63 : decode cX12_lays 63 = .ok (.iload_n 3, 1) := by decide +kernel
theorem dX12_lays_64 : decode cX12_lays 64 = .ok (.iastore, 1) := by decide +kernel
theorem dX12_lays_65 : decode cX12_lays 65 = .ok (.return_, 1) := by decide +kernel
theorem dX12_changes_0 : decode cX12_changes 0 = .ok (.aload_n 0, 1) := by decide +kernel
theorem dX12_changes_1 : decode cX12_changes 1 = .ok (.iload_n 1, 1) := by decide +kernel
theorem dX12_changes_2 : decode cX12_changes 2 = .ok (.iload_n 2, 1) := by decide +kernel
theorem dX12_changes_3 : decode cX12_changes 3 = .ok (.invokevirtual 142, 3) := by decide +kernel
theorem dX12_changes_6 : decode cX12_changes 6 = .ok (.istore 4, 2) := by decide +kernel
theorem dX12_changes_8 : decode cX12_changes 8 = .ok (.iload 4, 2) := by decide +kernel
theorem dX12_changes_10 : decode cX12_changes 10 = .ok (.iload_n 3, 1) := by decide +kernel
theorem dX12_changes_11 : decode cX12_changes 11 = .ok (.if_icmp .ne 6, 3) := by decide +kernel
theorem dX12_changes_14 : decode cX12_changes 14 = .ok (.iload 4, 2) := by decide +kernel
theorem dX12_changes_16 : decode cX12_changes 16 = .ok (.ireturn, 1) := by decide +kernel
theorem dX12_changes_17 : decode cX12_changes 17 = .ok (.aload_n 0, 1) := by decide +kernel
theorem dX12_changes_18 : decode cX12_changes 18 = .ok (.iconst 0, 1) := by decide +kernel
theorem dX12_changes_19 : decode cX12_changes 19 = .ok (.putfield 146, 3) := by decide +kernel
theorem dX12_changes_22 : decode cX12_changes 22 = .ok (.aload_n 0, 1) := by decide +kernel
theorem dX12_changes_23 : decode cX12_changes 23 = .ok (.getfield 149, 3) := by decide +kernel
theorem dX12_changes_26 : decode cX12_changes 26 = .ok (.bipush 40, 2) := by decide +kernel
theorem dX12_changes_28 : decode cX12_changes 28 = .ok (.if_icmp .ne 93, 3) := by decide +kernel
theorem dX12_changes_31 : decode cX12_changes 31 = .ok (.iconst 1, 1) := by decide +kernel
theorem dX12_changes_32 : decode cX12_changes 32 = .ok (.istore 5, 2) := by decide +kernel
theorem dX12_changes_34 : decode cX12_changes 34 = .ok (.iload 5, 2) := by decide +kernel
theorem dX12_changes_36 : decode cX12_changes 36 = .ok (.bipush 40, 2) := by decide +kernel
theorem dX12_changes_38 : decode cX12_changes 38 = .ok (.if_icmp .ge 73, 3) := by decide +kernel
theorem dX12_changes_41 : decode cX12_changes 41 = .ok (.aload_n 0, 1) := by decide +kernel
theorem dX12_changes_42 : decode cX12_changes 42 = .ok (.getfield 24, 3) := by decide +kernel
theorem dX12_changes_45 : decode cX12_changes 45 = .ok (.iload 5, 2) := by decide +kernel
theorem dX12_changes_47 : decode cX12_changes 47 = .ok (.iconst 1, 1) := by decide +kernel
theorem dX12_changes_48 : decode cX12_changes 48 = .ok (.isub, 1) := by decide +kernel
theorem dX12_changes_49 : decode cX12_changes 49 = .ok (.aload_n 0, 1) := by decide +kernel
theorem dX12_changes_50 : decode cX12_changes 50 = .ok (.getfield 24, 3) := by decide +kernel
theorem dX12_changes_53 : decode cX12_changes 53 = .ok (.iload 5, 2) := by decide +kernel
theorem dX12_changes_55 : decode cX12_changes 55 = .ok (.iaload, 1) := by decide +kernel
theorem dX12_changes_56 : decode cX12_changes 56 = .ok (.iastore, 1) := by decide +kernel
theorem dX12_changes_57 : decode cX12_changes 57 = .ok (.aload_n 0, 1) := by decide +kernel
theorem dX12_changes_58 : decode cX12_changes 58 = .ok (.getfield 27, 3) := by decide +kernel
theorem dX12_changes_61 : decode cX12_changes 61 = .ok (.iload 5, 2) := by decide +kernel
theorem dX12_changes_63 : decode cX12_changes 63 = .ok (.iconst 1, 1) := by decide +kernel
theorem dX12_changes_64 : decode cX12_changes 64 = .ok (.isub, 1) := by decide +kernel
theorem dX12_changes_65 : decode cX12_changes 65 = .ok (.aload_n 0, 1) := by decide +kernel
theorem dX12_changes_66 : decode cX12_changes 66 = .ok (.getfield 27, 3) := by decide +kernel
theorem dX12_changes_69 : decode cX12_changes 69 = .ok (.iload 5, 2) := by decide +kernel
theorem dX12_changes_71 : decode cX12_changes 71 = .ok (.iaload, 1) := by decide +kernel
theorem dX12_changes_72 : decode cX12_changes 72 = .ok (.iastore, 1) := by decide +kernel
theorem dX12_changes_73 : decode cX12_changes 73 = .ok (.aload_n 0, 1) := by decide +kernel
theorem dX12_changes_74 : decode cX12_changes 74 = .ok (.getfield 30, 3) := by decide +kernel
theorem dX12_changes_77 : decode cX12_changes 77 = .ok (.iload 5, 2) := by decide +kernel
theorem dX12_changes_79 : decode cX12_changes 79 = .ok (.iconst 1, 1) := by decide +kernel
theorem dX12_changes_80 : decode cX12_changes 80 = .ok (.isub, 1) := by decide +kernel
theorem dX12_changes_81 : decode cX12_changes 81 = .ok (.aload_n 0, 1) := by decide +kernel
theorem dX12_changes_82 : decode cX12_changes 82 = .ok (.getfield 30, 3) := by decide +kernel
theorem dX12_changes_85 : decode cX12_changes 85 = .ok (.iload 5, 2) := by decide +kernel
theorem dX12_changes_87 : decode cX12_changes 87 = .ok (.iaload, 1) := by decide +kernel
theorem dX12_changes_88 : decode cX12_changes 88 = .ok (.iastore, 1) := by decide +kernel
theorem dX12_changes_89 : decode cX12_changes 89 = .ok (.aload_n 0, 1) := by decide +kernel
theorem dX12_changes_90 : decode cX12_changes 90 = .ok (.getfield 33, 3) := by decide +kernel
theorem dX12_changes_93 : decode cX12_changes 93 = .ok (.iload 5, 2) := by decide +kernel
theorem dX12_changes_95 : decode cX12_changes 95 = .ok (.iconst 1, 1) := by decide +kernel
theorem dX12_changes_96 : decode cX12_changes 96 = .ok (.isub, 1) := by decide +kernel
theorem dX12_changes_97 : decode cX12_changes 97 = .ok (.aload_n 0, 1) := by decide +kernel
theorem dX12_changes_98 : decode cX12_changes 98 = .ok (.getfield 33, 3) := by decide +kernel
theorem dX12_changes_101 : decode cX12_changes 101 = .ok (.iload 5, 2) := by decide +kernel
theorem dX12_changes_103 : decode cX12_changes 103 = .ok (.iaload, 1) := by decide +kernel
theorem dX12_changes_104 : decode cX12_changes 104 = .ok (.iastore, 1) := by decide +kernel
theorem dX12_changes_105 : decode cX12_changes 105 = .ok (.iinc 5 1, 3) := by decide +kernel
theorem dX12_changes_108 : decode cX12_changes 108 = .ok (.goto (-74), 3) := by decide +kernel
theorem dX12_changes_111 : decode cX12_changes 111 = .ok (.aload_n 0, 1) := by decide +kernel
theorem dX12_changes_112 : decode cX12_changes 112 = .ok (.dup, 1) := by decide +kernel
theorem dX12_changes_113 : decode cX12_changes 113 = .ok (.getfield 149, 3) := by decide +kernel
theorem dX12_changes_116 : decode cX12_changes 116 = .ok (.iconst 1, 1) := by decide +kernel
theorem dX12_changes_117 : decode cX12_changes 117 = .ok (.isub, 1) := by decide +kernel
theorem dX12_changes_118 : decode cX12_changes 118 = .ok (.putfield 149, 3) := by decide +kernel
theorem dX12_changes_121 : decode cX12_changes 121 = .ok (.aload_n 0, 1) := by decide +kernel
theorem dX12_changes_122 : decode cX12_changes 122 = .ok (.getfield 24, 3) := by decide +kernel
theorem dX12_changes_125 : decode cX12_changes 125 = .ok (.aload_n 0, 1) := by decide +kernel
theorem dX12_changes_126 : decode cX12_changes 126 = .ok (.getfield 149, 3) := by decide +kernel
theorem dX12_changes_129 : decode cX12_changes 129 = .ok (.iload_n 1, 1) := by decide +kernel
theorem dX12_changes_130 : decode cX12_changes 130 = .ok (.iastore, 1) := by decide +kernel
theorem dX12_changes_131 : decode cX12_changes 131 = .ok (.aload_n 0, 1) := by decide +kernel
theorem dX12_changes_132 : decode cX12_changes 132 = .ok (.getfield 27, 3) := by decide +kernel
theorem dX12_changes_135 : decode cX12_changes 135 = .ok (.aload_n 0, 1) := by decide +kernel
theorem dX12_changes_136 : decode cX12_changes 136 = .ok (.getfield 149, 3) := by decide +kernel
theorem dX12_changes_139 : decode cX12_changes 139 = .ok (.iload_n 2, 1) := by decide +kernel
theorem dX12_changes_140 : decode cX12_changes 140 = .ok (.iastore, 1) := by decide +kernel
theorem dX12_changes_141 : decode cX12_changes 141 = .ok (.aload_n 0, 1) := by decide +kernel
theorem dX12_changes_142 : decode cX12_changes 142 = .ok (.getfield 30, 3) := by decide +kernel
theorem dX12_changes_145 : decode cX12_changes 145 = .ok (.aload_n 0, 1) := by decide +kernel
theorem dX12_changes_146 : decode cX12_changes 146 = .ok (.getfield 149, 3) := by decide +kernel
theorem dX12_changes_149 : decode cX12_changes 149 = .ok (.iload 4, 2) := by decide +kernel
theorem dX12_changes_151 : decode cX12_changes 151 = .ok (.iastore, 1) := by decide +kernel
theorem dX12_changes_152 : decode cX12_changes 152 = .ok (.aload_n 0, 1) := by decide +kernel
theorem dX12_changes_153 : decode cX12_changes 153 = .ok (.getfield 33, 3) := by decide +kernel
theorem dX12_changes_156 : decode cX12_changes 156 = .ok (.aload_n 0, 1) := by decide +kernel
theorem dX12_changes_157 : decode cX12_changes 157 = .ok (.getfield 149, 3) := by decide +kernel
theorem dX12_changes_160 : decode cX12_changes 160 = .ok (.iload_n 3, 1) := by decide +kernel
theorem dX12_changes_161 : decode cX12_changes 161 = .ok (.iastore, 1) := by decide +kernel
theorem dX12_changes_162 : decode cX12_changes 162 = .ok (.aload_n 0, 1) := by decide +kernel
theorem dX12_changes_163 : decode cX12_changes 163 = .ok (.dup, 1) := by decide +kernel
theorem dX12_changes_164 : decode cX12_changes 164 = .ok (.getfield 149, 3) := by decide +kernel
theorem dX12_changes_167 : decode cX12_changes 167 = .ok (.iconst 1, 1) := by decide +kernel
theorem dX12_changes_168 : decode cX12_changes 168 = .ok (.iadd, 1) := by decide +kernel
theorem dX12_changes_169 : decode cX12_changes 169 = .ok (.putfield 149, 3) := by decide +kernel
theorem dX12_changes_172 : decode cX12_changes 172 = .ok (.aload_n 0, 1) := by decide +kernel
theorem dX12_changes_173 : decode cX12_changes 173 = .ok (.iload_n 1, 1) := by decide +kernel
theorem dX12_changes_174 : decode cX12_changes 174 = .ok (.iload_n 2, 1) := by decide +kernel
theorem dX12_changes_175 : decode cX12_changes 175 = .ok (.iload_n 3, 1) := by decide +kernel
theorem dX12_changes_176 : decode cX12_changes 176 = .ok (.invokevirtual 152, 3) := by decide +kernel
theorem dX12_changes_179 : decode cX12_changes 179 = .ok (.iload 4, 2) := by decide +kernel
theorem dX12_changes_181 : decode cX12_changes 181 = .ok (.ireturn, 1) := by decide +kernel
theorem dX12_undo_0 : decode cX12_undo 0 = .ok (.aload_n 0, 1) := by decide +kernel
theorem dX12_undo_1 : decode cX12_undo 1 = .ok (.getfield 149, 3) := by decide +kernel
theorem dX12_undo_4 : decode cX12_undo 4 = .ok (.ifCond .ne 6, 3) := by decide +kernel
theorem dX12_undo_7 : decode cX12_undo 7 = .ok (.bipush (-5), 2) := by decide +kernel
theorem dX12_undo_9 : decode cX12_undo 9 = .ok (.ireturn, 1) := by decide +kernel
theorem dX12_undo_10 : decode cX12_undo 10 = .ok (.aload_n 0, 1) := by decide +kernel
theorem dX12_undo_11 : decode cX12_undo 11 = .ok (.dup, 1) := by decide +kernel
theorem dX12_undo_12 : decode cX12_undo 12 = .ok (.getfield 149, 3) := by decide +kernel
theorem dX12_undo_15 : decode cX12_undo 15 = .ok (.iconst 1, 1) := by decide +kernel
theorem dX12_undo_16 : decode cX12_undo 16 = .ok (.isub, 1) := by decide +kernel
theorem dX12_undo_17 : decode cX12_undo 17 = .ok (.putfield 149, 3) := by decide +kernel
theorem dX12_undo_20 : decode cX12_undo 20 = .ok (.aload_n 0, 1) := by decide +kernel
theorem dX12_undo_21 : decode cX12_undo 21 = .ok (.dup, 1) := by decide +kernel
theorem dX12_undo_22 : decode cX12_undo 22 = .ok (.getfield 146, 3) := by decide +kernel
theorem dX12_undo_25 : decode cX12_undo 25 = .ok (.iconst 1, 1) := by decide +kernel
theorem dX12_undo_26 : decode cX12_undo 26 = .ok (.iadd, 1) := by decide +kernel
theorem dX12_undo_27 : decode cX12_undo 27 = .ok (.putfield 146, 3) := by decide +kernel
theorem dX12_undo_30 : decode cX12_undo 30 = .ok (.aload_n 0, 1) := by decide +kernel
theorem dX12_undo_31 : decode cX12_undo 31 = .ok (.aload_n 0, 1) := by decide +kernel
theorem dX12_undo_32 : decode cX12_undo 32 = .ok (.getfield 24, 3) := by decide +kernel
theorem dX12_undo_35 : decode cX12_undo 35 = .ok (.aload_n 0, 1) := by decide +kernel
theorem dX12_undo_36 : decode cX12_undo 36 = .ok (.getfield 149, 3) := by decide +kernel
theorem dX12_undo_39 : decode cX12_undo 39 = .ok (.iaload, 1) := by decide +kernel
theorem dX12_undo_40 : decode cX12_undo 40 = .ok (.aload_n 0, 1) := by decide +kernel
theorem dX12_undo_41 : decode cX12_undo 41 = .ok (.getfield 27, 3) := by decide +kernel
theorem dX12_undo_44 : decode cX12_undo 44 = .ok (.aload_n 0, 1) := by decide +kernel
theorem dX12_undo_45 : decode cX12_undo 45 = .ok (.getfield 149, 3) := by decide +kernel
theorem dX12_undo_48 : decode cX12_undo 48 = .ok (.iaload, 1) := by decide +kernel
theorem dX12_undo_49 : decode cX12_undo 49 = .ok (.aload_n 0, 1) := by decide +kernel
theorem dX12_undo_50 : decode cX12_undo 50 = .ok (.getfield 30, 3) := by decide +kernel
theorem dX12_undo_53 : decode cX12_undo 53 = .ok (.aload_n 0, 1) := by decide +kernel
theorem dX12_undo_54 : decode cX12_undo 54 = .ok (.getfield 149, 3) := by decide +kernel
theorem dX12_undo_57 : decode cX12_undo 57 = .ok (.iaload, 1) := by decide +kernel
theorem dX12_undo_58 : decode cX12_undo 58 = .ok (.invokevirtual 152, 3) := by decide +kernel
theorem dX12_undo_61 : decode cX12_undo 61 = .ok (.aload_n 0, 1) := by decide +kernel
theorem dX12_undo_62 : decode cX12_undo 62 = .ok (.getfield 149, 3) := by decide +kernel
theorem dX12_undo_65 : decode cX12_undo 65 = .ok (.ireturn, 1) := by decide +kernel
theorem dX12_redo_0 : decode cX12_redo 0 = .ok (.aload_n 0, 1) := by decide +kernel
theorem dX12_redo_1 : decode cX12_redo 1 = .ok (.getfield 146, 3) := by decide +kernel
theorem dX12_redo_4 : decode cX12_redo 4 = .ok (.ifCond .ne 6, 3) := by decide +kernel
theorem dX12_redo_7 : decode cX12_redo 7 = .ok (.bipush (-5), 2) := by decide +kernel
theorem dX12_redo_9 : decode cX12_redo 9 = .ok (.ireturn, 1) := by decide +kernel
theorem dX12_redo_10 : decode cX12_redo 10 = .ok (.aload_n 0, 1) := by decide +kernel
theorem dX12_redo_11 : decode cX12_redo 11 = .ok (.aload_n 0, 1) := by decide +kernel
theorem dX12_redo_12 : decode cX12_redo 12 = .ok (.getfield 24, 3) := by decide +kernel
theorem dX12_redo_15 : decode cX12_redo 15 = .ok (.aload_n 0, 1) := by decide +kernel
theorem dX12_redo_16 : decode cX12_redo 16 = .ok (.getfield 149, 3) := by decide +kernel
theorem dX12_redo_19 : decode cX12_redo 19 = .ok (.iaload, 1) := by decide +kernel
theorem dX12_redo_20 : decode cX12_redo 20 = .ok (.aload_n 0, 1) := by decide +kernel
theorem dX12_redo_21 : decode cX12_redo 21 = .ok (.getfield 27, 3) := by decide +kernel
theorem dX12_redo_24 : decode cX12_redo 24 = .ok (.aload_n 0, 1) := by decide +kernel
theorem dX12_redo_25 : decode cX12_redo 25 = .ok (.getfield 149, 3) := by decide +kernel
theorem dX12_redo_28 : decode cX12_redo 28 = .ok (.iaload, 1) := by decide +kernel
theorem dX12_redo_29 : decode cX12_redo 29 = .ok (.aload_n 0, 1) := by decide +kernel
theorem dX12_redo_30 : decode cX12_redo 30 = .ok (.getfield 33, 3) := by decide +kernel
theorem dX12_redo_33 : decode cX12_redo 33 = .ok (.aload_n 0, 1) := by decide +kernel
theorem dX12_redo_34 : decode cX12_redo 34 = .ok (.getfield 149, 3) := by decide +kernel
theorem dX12_redo_37 : decode cX12_redo 37 = .ok (.iaload, 1) := by decide +kernel
theorem dX12_redo_38 : decode cX12_redo 38 = .ok (.invokevirtual 152, 3) := by decide +kernel
theorem dX12_redo_41 : decode cX12_redo 41 = .ok (.aload_n 0, 1) := by decide +kernel
theorem dX12_redo_42 : decode cX12_redo 42 = .ok (.dup, 1) := by decide +kernel
theorem dX12_redo_43 : decode cX12_redo 43 = .ok (.getfield 149, 3) := by decide +kernel
theorem dX12_redo_46 : decode cX12_redo 46 = .ok (.iconst 1, 1) := by decide +kernel
theorem dX12_redo_47 : decode cX12_redo 47 = .ok (.iadd, 1) := by decide +kernel
theorem dX12_redo_48 : decode cX12_redo 48 = .ok (.putfield 149, 3) := by decide +kernel
theorem dX12_redo_51 : decode cX12_redo 51 = .ok (.aload_n 0, 1) := by decide +kernel
theorem dX12_redo_52 : decode cX12_redo 52 = .ok (.dup, 1) := by decide +kernel
theorem dX12_redo_53 : decode cX12_redo 53 = .ok (.getfield 146, 3) := by decide +kernel
theorem dX12_redo_56 : decode cX12_redo 56 = .ok (.iconst 1, 1) := by decide +kernel
theorem dX12_redo_57 : decode cX12_redo 57 = .ok (.isub, 1) := by decide +kernel
theorem dX12_redo_58 : decode cX12_redo 58 = .ok (.putfield 146, 3) := by decide +kernel
theorem dX12_redo_61 : decode cX12_redo 61 = .ok (.aload_n 0, 1) := by decide +kernel
theorem dX12_redo_62 : decode cX12_redo 62 = .ok (.getfield 146, 3) := by decide +kernel
theorem dX12_redo_65 : decode cX12_redo 65 = .ok (.ireturn, 1) := by decide +kernel
theorem dX12_mayBe_0 : decode cX12_mayBe 0 = .ok (.iload_n 0, 1) := by decide +kernel
theorem dX12_mayBe_1 : decode cX12_mayBe 1 = .ok (.iconst 2, 1) := by decide +kernel
theorem dX12_mayBe_2 : decode cX12_mayBe 2 = .ok (.if_icmp .ne 13, 3) := by decide +kernel
theorem dX12_mayBe_5 : decode cX12_mayBe 5 = .ok (.iload_n 1, 1) := by decide +kernel
theorem dX12_mayBe_6 : decode cX12_mayBe 6 = .ok (.iconst 0, 1) := by decide +kernel
theorem dX12_mayBe_7 : decode cX12_mayBe 7 = .ok (.bipush 6, 2) := by decide +kernel
theorem dX12_mayBe_9 : decode cX12_mayBe 9 = .ok (.invokestatic 125, 3) := by decide +kernel
theorem dX12_mayBe_12 : decode cX12_mayBe 12 = .ok (.goto 25, 3) := by decide +kernel
theorem dX12_mayBe_15 : decode cX12_mayBe 15 = .ok (.iload_n 0, 1) := by decide +kernel
theorem dX12_mayBe_16 : decode cX12_mayBe 16 = .ok (.iconst 3, 1) := by decide +kernel
theorem dX12_mayBe_17 : decode cX12_mayBe 17 = .ok (.if_icmp .ne 13, 3) := by decide +kernel
theorem dX12_mayBe_20 : decode cX12_mayBe 20 = .ok (.iload_n 1, 1) := by decide +kernel
theorem dX12_mayBe_21 : decode cX12_mayBe 21 = .ok (.iconst 0, 1) := by decide +kernel
theorem dX12_mayBe_22 : decode cX12_mayBe 22 = .ok (.bipush 99, 2) := by decide +kernel
theorem dX12_mayBe_24 : decode cX12_mayBe 24 = .ok (.invokestatic 125, 3) := by decide +kernel
theorem dX12_mayBe_27 : decode cX12_mayBe 27 = .ok (.goto 10, 3) := by decide +kernel
theorem dX12_mayBe_30 : decode cX12_mayBe 30 = .ok (.iload_n 1, 1) := by decide +kernel
theorem dX12_mayBe_31 : decode cX12_mayBe 31 = .ok (.iconst 0, 1) := by decide +kernel
theorem dX12_mayBe_32 : decode cX12_mayBe 32 = .ok (.bipush 9, 2) := by decide +kernel
theorem dX12_mayBe_34 : decode cX12_mayBe 34 = .ok (.invokestatic 125, 3) := by decide +kernel
theorem dX12_mayBe_37 : decode cX12_mayBe 37 = .ok (.ireturn, 1) := by decide +kernel
theorem dX12_mend_0 : decode cX12_mend 0 = .ok (.aload_n 0, 1) := by decide +kernel
theorem dX12_mend_1 : decode cX12_mend 1 = .ok (.iload_n 1, 1) := by decide +kernel
theorem dX12_mend_2 : decode cX12_mend 2 = .ok (.invokevirtual 129, 3) := by decide +kernel
theorem dX12_mend_5 : decode cX12_mend 5 = .ok (.ifCond .eq 30, 3) := by decide +kernel
theorem dX12_mend_8 : decode cX12_mend 8 = .ok (.iload_n 2, 1) := by decide +kernel
theorem dX12_mend_9 : decode cX12_mend 9 = .ok (.iconst 0, 1) := by decide +kernel
theorem dX12_mend_10 : decode cX12_mend 10 = .ok (.iconst 3, 1) := by decide +kernel
theorem dX12_mend_11 : decode cX12_mend 11 = .ok (.invokestatic 125, 3) := by decide +kernel
theorem dX12_mend_14 : decode cX12_mend 14 = .ok (.ifCond .eq 21, 3) := by decide +kernel
theorem dX12_mend_17 : decode cX12_mend 17 = .ok (.iload_n 2, 1) := by decide +kernel
theorem dX12_mend_18 : decode cX12_mend 18 = .ok (.iload_n 3, 1) := by decide +kernel
theorem dX12_mend_19 : decode cX12_mend 19 = .ok (.invokestatic 156, 3) := by decide +kernel
theorem dX12_mend_22 : decode cX12_mend 22 = .ok (.ifCond .eq 13, 3) := by decide +kernel
theorem dX12_mend_25 : decode cX12_mend 25 = .ok (.aload_n 0, 1) := by decide +kernel
theorem dX12_mend_26 : decode cX12_mend 26 = .ok (.iload_n 2, 1) := by decide +kernel
theorem dX12_mend_27 : decode cX12_mend 27 = .ok (.iload_n 1, 1) := by decide +kernel
theorem dX12_mend_28 : decode cX12_mend 28 = .ok (.iload_n 3, 1) := by decide +kernel
theorem dX12_mend_29 : decode cX12_mend 29 = .ok (.invokevirtual 160, 3) := by decide +kernel
theorem dX12_mend_32 : decode cX12_mend 32 = .ok (.goto 4, 3) := by decide +kernel
theorem dX12_mend_35 : decode cX12_mend 35 = .ok (.iconst (-1), 1) := by decide +kernel
theorem dX12_mend_36 : decode cX12_mend 36 = .ok (.ireturn, 1) := by decide +kernel
theorem dX12_of_0 : decode cX12_of 0 = .ok (.aload_n 0, 1) := by decide +kernel
theorem dX12_of_1 : decode cX12_of 1 = .ok (.iload_n 1, 1) := by decide +kernel
theorem dX12_of_2 : decode cX12_of 2 = .ok (.invokevirtual 129, 3) := by decide +kernel
theorem dX12_of_5 : decode cX12_of 5 = .ok (.ifCond .eq 12, 3) := by decide +kernel
theorem dX12_of_8 : decode cX12_of 8 = .ok (.iload_n 2, 1) := by decide +kernel
theorem dX12_of_9 : decode cX12_of 9 = .ok (.iconst 0, 1) := by decide +kernel
theorem dX12_of_10 : decode cX12_of 10 = .ok (.iconst 4, 1) := by decide +kernel
theorem dX12_of_11 : decode cX12_of 11 = .ok (.invokestatic 125, 3) := by decide +kernel
theorem dX12_of_14 : decode cX12_of 14 = .ok (.ifCond .ne 6, 3) := by decide +kernel
theorem dX12_of_17 : decode cX12_of 17 = .ok (.ldc 163, 2) := by decide +kernel
theorem dX12_of_19 : decode cX12_of 19 = .ok (.ireturn, 1) := by decide +kernel
theorem dX12_of_20 : decode cX12_of 20 = .ok (.iload_n 2, 1) := by decide +kernel
theorem dX12_of_21 : decode cX12_of 21 = .ok (.iconst 4, 1) := by decide +kernel
theorem dX12_of_22 : decode cX12_of 22 = .ok (.if_icmp .ne 12, 3) := by decide +kernel
theorem dX12_of_25 : decode cX12_of 25 = .ok (.aload_n 0, 1) := by decide +kernel
theorem dX12_of_26 : decode cX12_of 26 = .ok (.getfield 65, 3) := by decide +kernel
theorem dX12_of_29 : decode cX12_of 29 = .ok (.iload_n 1, 1) := by decide +kernel
theorem dX12_of_30 : decode cX12_of 30 = .ok (.iaload, 1) := by decide +kernel
theorem dX12_of_31 : decode cX12_of 31 = .ok (.goto 9, 3) := by decide +kernel
theorem dX12_of_34 : decode cX12_of 34 = .ok (.aload_n 0, 1) := by decide +kernel
theorem dX12_of_35 : decode cX12_of 35 = .ok (.iload_n 2, 1) := by decide +kernel
theorem dX12_of_36 : decode cX12_of 36 = .ok (.iload_n 1, 1) := by decide +kernel
theorem dX12_of_37 : decode cX12_of 37 = .ok (.invokevirtual 142, 3) := by decide +kernel
theorem dX12_of_40 : decode cX12_of 40 = .ok (.ireturn, 1) := by decide +kernel
theorem dX12_feed_0 : decode cX12_feed 0 = .ok (.iload_n 1, 1) := by decide +kernel
theorem dX12_feed_1 : decode cX12_feed 1 = .ok (.iconst 0, 1) := by decide +kernel
theorem dX12_feed_2 : decode cX12_feed 2 = .ok (.sipush 255, 3) := by decide +kernel
theorem dX12_feed_5 : decode cX12_feed 5 = .ok (.invokestatic 125, 3) := by decide +kernel
theorem dX12_feed_8 : decode cX12_feed 8 = .ok (.ifCond .ne 5, 3) := by decide +kernel
theorem dX12_feed_11 : decode cX12_feed 11 = .ok (.iconst (-1), 1) := by decide +kernel
theorem dX12_feed_12 : decode cX12_feed 12 = .ok (.ireturn, 1) := by decide +kernel
theorem dX12_feed_13 : decode cX12_feed 13 = .ok (.aload_n 0, 1) := by decide +kernel
theorem dX12_feed_14 : decode cX12_feed 14 = .ok (.getfield 164, 3) := by decide +kernel
theorem dX12_feed_17 : decode cX12_feed 17 = .ok (.bipush 120, 2) := by decide +kernel
theorem dX12_feed_19 : decode cX12_feed 19 = .ok (.if_icmp .ne 6, 3) := by decide +kernel
theorem dX12_feed_22 : decode cX12_feed 22 = .ok (.bipush (-3), 2) := by decide +kernel
theorem dX12_feed_24 : decode cX12_feed 24 = .ok (.ireturn, 1) := by decide +kernel
theorem dX12_feed_25 : decode cX12_feed 25 = .ok (.aload_n 0, 1) := by decide +kernel
theorem dX12_feed_26 : decode cX12_feed 26 = .ok (.getfield 36, 3) := by decide +kernel
theorem dX12_feed_29 : decode cX12_feed 29 = .ok (.aload_n 0, 1) := by decide +kernel
theorem dX12_feed_30 : decode cX12_feed 30 = .ok (.getfield 164, 3) := by decide +kernel
theorem dX12_feed_33 : decode cX12_feed 33 = .ok (.iload_n 1, 1) := by decide +kernel
theorem dX12_feed_34 : decode cX12_feed 34 = .ok (.i2b, 1) := by decide +kernel
theorem dX12_feed_35 : decode cX12_feed 35 = .ok (.bastore, 1) := by decide +kernel
theorem dX12_feed_36 : decode cX12_feed 36 = .ok (.aload_n 0, 1) := by decide +kernel
theorem dX12_feed_37 : decode cX12_feed 37 = .ok (.dup, 1) := by decide +kernel
theorem dX12_feed_38 : decode cX12_feed 38 = .ok (.getfield 164, 3) := by decide +kernel
theorem dX12_feed_41 : decode cX12_feed 41 = .ok (.iconst 1, 1) := by decide +kernel
theorem dX12_feed_42 : decode cX12_feed 42 = .ok (.iadd, 1) := by decide +kernel
theorem dX12_feed_43 : decode cX12_feed 43 = .ok (.putfield 164, 3) := by decide +kernel
theorem dX12_feed_46 : decode cX12_feed 46 = .ok (.aload_n 0, 1) := by decide +kernel
theorem dX12_feed_47 : decode cX12_feed 47 = .ok (.getfield 164, 3) := by decide +kernel
theorem dX12_feed_50 : decode cX12_feed 50 = .ok (.ireturn, 1) := by decide +kernel
theorem dX12_look_0 : decode cX12_look 0 = .ok (.aload_n 0, 1) := by decide +kernel
theorem dX12_look_1 : decode cX12_look 1 = .ok (.getfield 167, 3) := by decide +kernel
theorem dX12_look_4 : decode cX12_look 4 = .ok (.aload_n 0, 1) := by decide +kernel
theorem dX12_look_5 : decode cX12_look 5 = .ok (.getfield 164, 3) := by decide +kernel
theorem dX12_look_8 : decode cX12_look 8 = .ok (.if_icmp .ge 15, 3) := by decide +kernel
theorem dX12_look_11 : decode cX12_look 11 = .ok (.aload_n 0, 1) := by decide +kernel
theorem dX12_look_12 : decode cX12_look 12 = .ok (.getfield 36, 3) := by decide +kernel
theorem dX12_look_15 : decode cX12_look 15 = .ok (.aload_n 0, 1) := by decide +kernel
theorem dX12_look_16 : decode cX12_look 16 = .ok (.getfield 167, 3) := by decide +kernel
theorem dX12_look_19 : decode cX12_look 19 = .ok (.baload, 1) := by decide +kernel
theorem dX12_look_20 : decode cX12_look 20 = .ok (.goto 4, 3) := by decide +kernel
theorem dX12_look_23 : decode cX12_look 23 = .ok (.iconst (-1), 1) := by decide +kernel
theorem dX12_look_24 : decode cX12_look 24 = .ok (.ireturn, 1) := by decide +kernel
theorem dX12_wrong_0 : decode cX12_wrong 0 = .ok (.aload_n 0, 1) := by decide +kernel
theorem dX12_wrong_1 : decode cX12_wrong 1 = .ok (.getfield 170, 3) := by decide +kernel
theorem dX12_wrong_4 : decode cX12_wrong 4 = .ok (.ifCond .ge 11, 3) := by decide +kernel
theorem dX12_wrong_7 : decode cX12_wrong 7 = .ok (.aload_n 0, 1) := by decide +kernel
theorem dX12_wrong_8 : decode cX12_wrong 8 = .ok (.aload_n 0, 1) := by decide +kernel
theorem dX12_wrong_9 : decode cX12_wrong 9 = .ok (.getfield 167, 3) := by decide +kernel
theorem dX12_wrong_12 : decode cX12_wrong 12 = .ok (.putfield 170, 3) := by decide +kernel
theorem dX12_wrong_15 : decode cX12_wrong 15 = .ok (.return_, 1) := by decide +kernel
theorem dX12_addStep_0 : decode cX12_addStep 0 = .ok (.aload_n 0, 1) := by decide +kernel
theorem dX12_addStep_1 : decode cX12_addStep 1 = .ok (.getfield 40, 3) := by decide +kernel
theorem dX12_addStep_4 : decode cX12_addStep 4 = .ok (.sipush 130, 3) := by decide +kernel
theorem dX12_addStep_7 : decode cX12_addStep 7 = .ok (.aload_n 0, 1) := by decide +kernel
theorem dX12_addStep_8 : decode cX12_addStep 8 = .ok (.getfield 173, 3) := by decide +kernel
theorem dX12_addStep_11 : decode cX12_addStep 11 = .ok (.iadd, 1) := by decide +kernel
theorem dX12_addStep_12 : decode cX12_addStep 12 = .ok (.iload_n 1, 1) := by decide +kernel
theorem dX12_addStep_13 : decode cX12_addStep 13 = .ok (.i2b, 1) := by decide +kernel
theorem dX12_addStep_14 : decode cX12_addStep 14 = .ok (.bastore, 1) := by decide +kernel
theorem dX12_addStep_15 : decode cX12_addStep 15 = .ok (.aload_n 0, 1) := by decide +kernel
theorem dX12_addStep_16 : decode cX12_addStep 16 = .ok (.getfield 43, 3) := by decide +kernel
theorem dX12_addStep_19 : decode cX12_addStep 19 = .ok (.sipush 130, 3) := by decide +kernel
theorem dX12_addStep_22 : decode cX12_addStep 22 = .ok (.aload_n 0, 1) := by decide +kernel
theorem dX12_addStep_23 : decode cX12_addStep 23 = .ok (.getfield 173, 3) := by decide +kernel
theorem dX12_addStep_26 : decode cX12_addStep 26 = .ok (.iadd, 1) := by decide +kernel
theorem dX12_addStep_27 : decode cX12_addStep 27 = .ok (.iload_n 2, 1) := by decide +kernel
theorem dX12_addStep_28 : decode cX12_addStep 28 = .ok (.iastore, 1) := by decide +kernel
theorem dX12_addStep_29 : decode cX12_addStep 29 = .ok (.aload_n 0, 1) := by decide +kernel
theorem dX12_addStep_30 : decode cX12_addStep 30 = .ok (.dup, 1) := by decide +kernel
theorem dX12_addStep_31 : decode cX12_addStep 31 = .ok (.getfield 173, 3) := by decide +kernel
theorem dX12_addStep_34 : decode cX12_addStep 34 = .ok (.iconst 1, 1) := by decide +kernel
theorem dX12_addStep_35 : decode cX12_addStep 35 = .ok (.iadd, 1) := by decide +kernel
theorem dX12_addStep_36 : decode cX12_addStep 36 = .ok (.putfield 173, 3) := by decide +kernel
theorem dX12_addStep_39 : decode cX12_addStep 39 = .ok (.return_, 1) := by decide +kernel
theorem dX12_nameOf_0 : decode cX12_nameOf 0 = .ok (.iload_n 0, 1) := by decide +kernel
theorem dX12_nameOf_1 : decode cX12_nameOf 1 = .ok (.tableswitch 87 97 111 #[75, 83, 87, 77, 87, 87, 87, 81, 87, 87, 87, 87, 87, 85, 79], 75) := by decide +kernel
theorem dX12_nameOf_76 : decode cX12_nameOf 76 = .ok (.iconst 0, 1) := by decide +kernel
theorem dX12_nameOf_77 : decode cX12_nameOf 77 = .ok (.ireturn, 1) := by decide +kernel
theorem dX12_nameOf_78 : decode cX12_nameOf 78 = .ok (.iconst 1, 1) := by decide +kernel
theorem dX12_nameOf_79 : decode cX12_nameOf 79 = .ok (.ireturn, 1) := by decide +kernel
theorem dX12_nameOf_80 : decode cX12_nameOf 80 = .ok (.iconst 2, 1) := by decide +kernel
theorem dX12_nameOf_81 : decode cX12_nameOf 81 = .ok (.ireturn, 1) := by decide +kernel
theorem dX12_nameOf_82 : decode cX12_nameOf 82 = .ok (.iconst 3, 1) := by decide +kernel
theorem dX12_nameOf_83 : decode cX12_nameOf 83 = .ok (.ireturn, 1) := by decide +kernel
theorem dX12_nameOf_84 : decode cX12_nameOf 84 = .ok (.iconst 4, 1) := by decide +kernel
theorem dX12_nameOf_85 : decode cX12_nameOf 85 = .ok (.ireturn, 1) := by decide +kernel
theorem dX12_nameOf_86 : decode cX12_nameOf 86 = .ok (.iconst 5, 1) := by decide +kernel
theorem dX12_nameOf_87 : decode cX12_nameOf 87 = .ok (.ireturn, 1) := by decide +kernel
theorem dX12_nameOf_88 : decode cX12_nameOf 88 = .ok (.iconst (-1), 1) := by decide +kernel
theorem dX12_nameOf_89 : decode cX12_nameOf 89 = .ok (.ireturn, 1) := by decide +kernel
theorem dX12_opens_0 : decode cX12_opens 0 = .ok (.aload_n 0, 1) := by decide +kernel
theorem dX12_opens_1 : decode cX12_opens 1 = .ok (.getfield 176, 3) := by decide +kernel
theorem dX12_opens_4 : decode cX12_opens 4 = .ok (.bipush 6, 2) := by decide +kernel
theorem dX12_opens_6 : decode cX12_opens 6 = .ok (.if_icmp .ne 9, 3) := by decide +kernel
theorem dX12_opens_9 : decode cX12_opens 9 = .ok (.aload_n 0, 1) := by decide +kernel
theorem dX12_opens_10 : decode cX12_opens 10 = .ok (.invokevirtual 179, 3) := by decide +kernel
theorem dX12_opens_13 : decode cX12_opens 13 = .ok (.iconst 0, 1) := by decide +kernel
theorem dX12_opens_14 : decode cX12_opens 14 = .ok (.ireturn, 1) := by decide +kernel
theorem dX12_opens_15 : decode cX12_opens 15 = .ok (.aload_n 0, 1) := by decide +kernel
theorem dX12_opens_16 : decode cX12_opens 16 = .ok (.dup, 1) := by decide +kernel
theorem dX12_opens_17 : decode cX12_opens 17 = .ok (.getfield 176, 3) := by decide +kernel
theorem dX12_opens_20 : decode cX12_opens 20 = .ok (.iconst 1, 1) := by decide +kernel
theorem dX12_opens_21 : decode cX12_opens 21 = .ok (.iadd, 1) := by decide +kernel
theorem dX12_opens_22 : decode cX12_opens 22 = .ok (.putfield 176, 3) := by decide +kernel
theorem dX12_opens_25 : decode cX12_opens 25 = .ok (.aload_n 0, 1) := by decide +kernel
theorem dX12_opens_26 : decode cX12_opens 26 = .ok (.dup, 1) := by decide +kernel
theorem dX12_opens_27 : decode cX12_opens 27 = .ok (.getfield 167, 3) := by decide +kernel
theorem dX12_opens_30 : decode cX12_opens 30 = .ok (.iconst 1, 1) := by decide +kernel
theorem dX12_opens_31 : decode cX12_opens 31 = .ok (.iadd, 1) := by decide +kernel
theorem dX12_opens_32 : decode cX12_opens 32 = .ok (.putfield 167, 3) := by decide +kernel
theorem dX12_opens_35 : decode cX12_opens 35 = .ok (.iconst 1, 1) := by decide +kernel
theorem dX12_opens_36 : decode cX12_opens 36 = .ok (.ireturn, 1) := by decide +kernel
theorem dX12_figure_0 : decode cX12_figure 0 = .ok (.iconst 0, 1) := by decide +kernel
theorem dX12_figure_1 : decode cX12_figure 1 = .ok (.istore_n 1, 1) := by decide +kernel
theorem dX12_figure_2 : decode cX12_figure 2 = .ok (.iconst 0, 1) := by decide +kernel
theorem dX12_figure_3 : decode cX12_figure 3 = .ok (.istore_n 2, 1) := by decide +kernel
theorem dX12_figure_4 : decode cX12_figure 4 = .ok (.iload_n 2, 1) := by decide +kernel
theorem dX12_figure_5 : decode cX12_figure 5 = .ok (.iconst 4, 1) := by decide +kernel
theorem dX12_figure_6 : decode cX12_figure 6 = .ok (.if_icmp .ge 46, 3) := by decide +kernel
theorem dX12_figure_9 : decode cX12_figure 9 = .ok (.aload_n 0, 1) := by decide +kernel
theorem dX12_figure_10 : decode cX12_figure 10 = .ok (.invokevirtual 182, 3) := by decide +kernel
theorem dX12_figure_13 : decode cX12_figure 13 = .ok (.bipush 48, 2) := by decide +kernel
theorem dX12_figure_15 : decode cX12_figure 15 = .ok (.bipush 57, 2) := by decide +kernel
theorem dX12_figure_17 : decode cX12_figure 17 = .ok (.invokestatic 125, 3) := by decide +kernel
theorem dX12_figure_20 : decode cX12_figure 20 = .ok (.ifCond .eq 32, 3) := by decide +kernel
theorem dX12_figure_23 : decode cX12_figure 23 = .ok (.bipush 10, 2) := by decide +kernel
theorem dX12_figure_25 : decode cX12_figure 25 = .ok (.iload_n 1, 1) := by decide +kernel
theorem dX12_figure_26 : decode cX12_figure 26 = .ok (.imul, 1) := by decide +kernel
theorem dX12_figure_27 : decode cX12_figure 27 = .ok (.aload_n 0, 1) := by decide +kernel
theorem dX12_figure_28 : decode cX12_figure 28 = .ok (.invokevirtual 182, 3) := by decide +kernel
theorem dX12_figure_31 : decode cX12_figure 31 = .ok (.iadd, 1) := by decide +kernel
theorem dX12_figure_32 : decode cX12_figure 32 = .ok (.bipush 48, 2) := by decide +kernel
theorem dX12_figure_34 : decode cX12_figure 34 = .ok (.isub, 1) := by decide +kernel
theorem dX12_figure_35 : decode cX12_figure 35 = .ok (.istore_n 1, 1) := by decide +kernel
theorem dX12_figure_36 : decode cX12_figure 36 = .ok (.iinc 2 1, 3) := by decide +kernel
theorem dX12_figure_39 : decode cX12_figure 39 = .ok (.aload_n 0, 1) := by decide +kernel
theorem dX12_figure_40 : decode cX12_figure 40 = .ok (.dup, 1) := by decide +kernel
theorem dX12_figure_41 : decode cX12_figure 41 = .ok (.getfield 167, 3) := by decide +kernel
theorem dX12_figure_44 : decode cX12_figure 44 = .ok (.iconst 1, 1) := by decide +kernel
theorem dX12_figure_45 : decode cX12_figure 45 = .ok (.iadd, 1) := by decide +kernel
theorem dX12_figure_46 : decode cX12_figure 46 = .ok (.putfield 167, 3) := by decide +kernel
theorem dX12_figure_49 : decode cX12_figure 49 = .ok (.goto (-45), 3) := by decide +kernel
theorem dX12_figure_52 : decode cX12_figure 52 = .ok (.iload_n 2, 1) := by decide +kernel
theorem dX12_figure_53 : decode cX12_figure 53 = .ok (.ifCond .eq 17, 3) := by decide +kernel
theorem dX12_figure_56 : decode cX12_figure 56 = .ok (.aload_n 0, 1) := by decide +kernel
theorem dX12_figure_57 : decode cX12_figure 57 = .ok (.invokevirtual 182, 3) := by decide +kernel
theorem dX12_figure_60 : decode cX12_figure 60 = .ok (.bipush 48, 2) := by decide +kernel
theorem dX12_figure_62 : decode cX12_figure 62 = .ok (.bipush 57, 2) := by decide +kernel
theorem dX12_figure_64 : decode cX12_figure 64 = .ok (.invokestatic 125, 3) := by decide +kernel
theorem dX12_figure_67 : decode cX12_figure 67 = .ok (.ifCond .eq 7, 3) := by decide +kernel
theorem dX12_figure_70 : decode cX12_figure 70 = .ok (.aload_n 0, 1) := by decide +kernel
theorem dX12_figure_71 : decode cX12_figure 71 = .ok (.invokevirtual 179, 3) := by decide +kernel
theorem dX12_figure_74 : decode cX12_figure 74 = .ok (.aload_n 0, 1) := by decide +kernel
theorem dX12_figure_75 : decode cX12_figure 75 = .ok (.iconst 1, 1) := by decide +kernel
theorem dX12_figure_76 : decode cX12_figure 76 = .ok (.iload_n 1, 1) := by decide +kernel
theorem dX12_figure_77 : decode cX12_figure 77 = .ok (.invokevirtual 186, 3) := by decide +kernel
theorem dX12_figure_80 : decode cX12_figure 80 = .ok (.return_, 1) := by decide +kernel
theorem dX12_operand_0 : decode cX12_operand 0 = .ok (.aload_n 0, 1) := by decide +kernel
theorem dX12_operand_1 : decode cX12_operand 1 = .ok (.invokevirtual 182, 3) := by decide +kernel
theorem dX12_operand_4 : decode cX12_operand 4 = .ok (.istore_n 1, 1) := by decide +kernel
theorem dX12_operand_5 : decode cX12_operand 5 = .ok (.iload_n 1, 1) := by decide +kernel
theorem dX12_operand_6 : decode cX12_operand 6 = .ok (.invokestatic 190, 3) := by decide +kernel
theorem dX12_operand_9 : decode cX12_operand 9 = .ok (.ifCond .lt 25, 3) := by decide +kernel
theorem dX12_operand_12 : decode cX12_operand 12 = .ok (.aload_n 0, 1) := by decide +kernel
theorem dX12_operand_13 : decode cX12_operand 13 = .ok (.iconst 2, 1) := by decide +kernel
theorem dX12_operand_14 : decode cX12_operand 14 = .ok (.iload_n 1, 1) := by decide +kernel
theorem dX12_operand_15 : decode cX12_operand 15 = .ok (.invokestatic 190, 3) := by decide +kernel
theorem dX12_operand_18 : decode cX12_operand 18 = .ok (.invokevirtual 186, 3) := by decide +kernel
theorem dX12_operand_21 : decode cX12_operand 21 = .ok (.aload_n 0, 1) := by decide +kernel
theorem dX12_operand_22 : decode cX12_operand 22 = .ok (.dup, 1) := by decide +kernel
theorem dX12_operand_23 : decode cX12_operand 23 = .ok (.getfield 167, 3) := by decide +kernel
theorem dX12_operand_26 : decode cX12_operand 26 = .ok (.iconst 1, 1) := by decide +kernel
theorem dX12_operand_27 : decode cX12_operand 27 = .ok (.iadd, 1) := by decide +kernel
theorem dX12_operand_28 : decode cX12_operand 28 = .ok (.putfield 167, 3) := by decide +kernel
theorem dX12_operand_31 : decode cX12_operand 31 = .ok (.goto 123, 3) := by decide +kernel
theorem dX12_operand_34 : decode cX12_operand 34 = .ok (.iload_n 1, 1) := by decide +kernel
theorem dX12_operand_35 : decode cX12_operand 35 = .ok (.bipush 33, 2) := by decide +kernel
theorem dX12_operand_37 : decode cX12_operand 37 = .ok (.if_icmp .eq 9, 3) := by decide +kernel
theorem dX12_operand_40 : decode cX12_operand 40 = .ok (.iload_n 1, 1) := by decide +kernel
theorem dX12_operand_41 : decode cX12_operand 41 = .ok (.bipush 45, 2) := by decide +kernel
theorem dX12_operand_43 : decode cX12_operand 43 = .ok (.if_icmp .ne 44, 3) := by decide +kernel
theorem dX12_operand_46 : decode cX12_operand 46 = .ok (.aload_n 0, 1) := by decide +kernel
theorem dX12_operand_47 : decode cX12_operand 47 = .ok (.invokevirtual 194, 3) := by decide +kernel
theorem dX12_operand_50 : decode cX12_operand 50 = .ok (.ifCond .ne 4, 3) := by decide +kernel
theorem dX12_operand_53 : decode cX12_operand 53 = .ok (.return_, 1) := by decide +kernel
theorem dX12_operand_54 : decode cX12_operand 54 = .ok (.aload_n 0, 1) := by decide +kernel
theorem dX12_operand_55 : decode cX12_operand 55 = .ok (.invokevirtual 198, 3) := by decide +kernel
theorem dX12_operand_58 : decode cX12_operand 58 = .ok (.aload_n 0, 1) := by decide +kernel
theorem dX12_operand_59 : decode cX12_operand 59 = .ok (.dup, 1) := by decide +kernel
theorem dX12_operand_60 : decode cX12_operand 60 = .ok (.getfield 176, 3) := by decide +kernel
theorem dX12_operand_63 : decode cX12_operand 63 = .ok (.iconst 1, 1) := by decide +kernel
theorem dX12_operand_64 : decode cX12_operand 64 = .ok (.isub, 1) := by decide +kernel
theorem dX12_operand_65 : decode cX12_operand 65 = .ok (.putfield 176, 3) := by decide +kernel
theorem dX12_operand_68 : decode cX12_operand 68 = .ok (.aload_n 0, 1) := by decide +kernel
theorem dX12_operand_69 : decode cX12_operand 69 = .ok (.iload_n 1, 1) := by decide +kernel
theorem dX12_operand_70 : decode cX12_operand 70 = .ok (.bipush 33, 2) := by decide +kernel
theorem dX12_operand_72 : decode cX12_operand 72 = .ok (.if_icmp .ne 7, 3) := by decide +kernel
theorem dX12_operand_75 : decode cX12_operand 75 = .ok (.iconst 3, 1) := by decide +kernel
theorem dX12_operand_76 : decode cX12_operand 76 = .ok (.goto 4, 3) := by decide +kernel
theorem dX12_operand_79 : decode cX12_operand 79 = .ok (.iconst 4, 1) := by decide +kernel
theorem dX12_operand_80 : decode cX12_operand 80 = .ok (.iconst 0, 1) := by decide +kernel
theorem dX12_operand_81 : decode cX12_operand 81 = .ok (.invokevirtual 186, 3) := by decide +kernel
theorem dX12_operand_84 : decode cX12_operand 84 = .ok (.goto 70, 3) := by decide +kernel
theorem dX12_operand_87 : decode cX12_operand 87 = .ok (.iload_n 1, 1) := by decide +kernel
theorem dX12_operand_88 : decode cX12_operand 88 = .ok (.bipush 40, 2) := by decide +kernel
theorem dX12_operand_90 : decode cX12_operand 90 = .ok (.if_icmp .ne 60, 3) := by decide +kernel
theorem dX12_operand_93 : decode cX12_operand 93 = .ok (.aload_n 0, 1) := by decide +kernel
theorem dX12_operand_94 : decode cX12_operand 94 = .ok (.invokevirtual 194, 3) := by decide +kernel
theorem dX12_operand_97 : decode cX12_operand 97 = .ok (.ifCond .ne 4, 3) := by decide +kernel
theorem dX12_operand_100 : decode cX12_operand 100 = .ok (.return_, 1) := by decide +kernel
theorem dX12_operand_101 : decode cX12_operand 101 = .ok (.aload_n 0, 1) := by decide +kernel
theorem dX12_operand_102 : decode cX12_operand 102 = .ok (.invokevirtual 201, 3) := by decide +kernel
theorem dX12_operand_105 : decode cX12_operand 105 = .ok (.aload_n 0, 1) := by decide +kernel
theorem dX12_operand_106 : decode cX12_operand 106 = .ok (.getfield 170, 3) := by decide +kernel
theorem dX12_operand_109 : decode cX12_operand 109 = .ok (.ifCond .lt 4, 3) := by decide +kernel
theorem dX12_operand_112 : decode cX12_operand 112 = .ok (.return_, 1) := by decide +kernel
theorem dX12_operand_113 : decode cX12_operand 113 = .ok (.aload_n 0, 1) := by decide +kernel
theorem dX12_operand_114 : decode cX12_operand 114 = .ok (.invokevirtual 182, 3) := by decide +kernel
theorem dX12_operand_117 : decode cX12_operand 117 = .ok (.bipush 41, 2) := by decide +kernel
theorem dX12_operand_119 : decode cX12_operand 119 = .ok (.if_icmp .eq 8, 3) := by decide +kernel
theorem dX12_operand_122 : decode cX12_operand 122 = .ok (.aload_n 0, 1) := by decide +kernel
theorem dX12_operand_123 : decode cX12_operand 123 = .ok (.invokevirtual 179, 3) := by decide +kernel
theorem dX12_operand_126 : decode cX12_operand 126 = .ok (.return_, 1) := by decide +kernel
theorem dX12_operand_127 : decode cX12_operand 127 = .ok (.aload_n 0, 1) := by decide +kernel
theorem dX12_operand_128 : decode cX12_operand 128 = .ok (.dup, 1) := by decide +kernel
theorem dX12_operand_129 : decode cX12_operand 129 = .ok (.getfield 167, 3) := by decide +kernel
theorem dX12_operand_132 : decode cX12_operand 132 = .ok (.iconst 1, 1) := by decide +kernel
theorem dX12_operand_133 : decode cX12_operand 133 = .ok (.iadd, 1) := by decide +kernel
theorem dX12_operand_134 : decode cX12_operand 134 = .ok (.putfield 167, 3) := by decide +kernel
theorem dX12_operand_137 : decode cX12_operand 137 = .ok (.aload_n 0, 1) := by decide +kernel
theorem dX12_operand_138 : decode cX12_operand 138 = .ok (.dup, 1) := by decide +kernel
theorem dX12_operand_139 : decode cX12_operand 139 = .ok (.getfield 176, 3) := by decide +kernel
theorem dX12_operand_142 : decode cX12_operand 142 = .ok (.iconst 1, 1) := by decide +kernel
theorem dX12_operand_143 : decode cX12_operand 143 = .ok (.isub, 1) := by decide +kernel
theorem dX12_operand_144 : decode cX12_operand 144 = .ok (.putfield 176, 3) := by decide +kernel
theorem dX12_operand_147 : decode cX12_operand 147 = .ok (.goto 7, 3) := by decide +kernel
theorem dX12_operand_150 : decode cX12_operand 150 = .ok (.aload_n 0, 1) := by decide +kernel
theorem dX12_operand_151 : decode cX12_operand 151 = .ok (.invokevirtual 204, 3) := by decide +kernel
theorem dX12_operand_154 : decode cX12_operand 154 = .ok (.return_, 1) := by decide +kernel
theorem dX12_product_0 : decode cX12_product 0 = .ok (.aload_n 0, 1) := by decide +kernel
theorem dX12_product_1 : decode cX12_product 1 = .ok (.invokevirtual 198, 3) := by decide +kernel
theorem dX12_product_4 : decode cX12_product 4 = .ok (.aload_n 0, 1) := by decide +kernel
theorem dX12_product_5 : decode cX12_product 5 = .ok (.getfield 170, 3) := by decide +kernel
theorem dX12_product_8 : decode cX12_product 8 = .ok (.ifCond .ge 58, 3) := by decide +kernel
theorem dX12_product_11 : decode cX12_product 11 = .ok (.aload_n 0, 1) := by decide +kernel
theorem dX12_product_12 : decode cX12_product 12 = .ok (.invokevirtual 182, 3) := by decide +kernel
theorem dX12_product_15 : decode cX12_product 15 = .ok (.bipush 42, 2) := by decide +kernel
theorem dX12_product_17 : decode cX12_product 17 = .ok (.if_icmp .eq 21, 3) := by decide +kernel
theorem dX12_product_20 : decode cX12_product 20 = .ok (.aload_n 0, 1) := by decide +kernel
theorem dX12_product_21 : decode cX12_product 21 = .ok (.invokevirtual 182, 3) := by decide +kernel
theorem dX12_product_24 : decode cX12_product 24 = .ok (.bipush 47, 2) := by decide +kernel
theorem dX12_product_26 : decode cX12_product 26 = .ok (.if_icmp .eq 12, 3) := by decide +kernel
theorem dX12_product_29 : decode cX12_product 29 = .ok (.aload_n 0, 1) := by decide +kernel
theorem dX12_product_30 : decode cX12_product 30 = .ok (.invokevirtual 182, 3) := by decide +kernel
theorem dX12_product_33 : decode cX12_product 33 = .ok (.bipush 37, 2) := by decide +kernel
theorem dX12_product_35 : decode cX12_product 35 = .ok (.if_icmp .ne 31, 3) := by decide +kernel
theorem dX12_product_38 : decode cX12_product 38 = .ok (.aload_n 0, 1) := by decide +kernel
theorem dX12_product_39 : decode cX12_product 39 = .ok (.invokevirtual 182, 3) := by decide +kernel
theorem dX12_product_42 : decode cX12_product 42 = .ok (.istore_n 1, 1) := by decide +kernel
theorem dX12_product_43 : decode cX12_product 43 = .ok (.aload_n 0, 1) := by decide +kernel
theorem dX12_product_44 : decode cX12_product 44 = .ok (.dup, 1) := by decide +kernel
theorem dX12_product_45 : decode cX12_product 45 = .ok (.getfield 167, 3) := by decide +kernel
theorem dX12_product_48 : decode cX12_product 48 = .ok (.iconst 1, 1) := by decide +kernel
theorem dX12_product_49 : decode cX12_product 49 = .ok (.iadd, 1) := by decide +kernel
theorem dX12_product_50 : decode cX12_product 50 = .ok (.putfield 167, 3) := by decide +kernel
theorem dX12_product_53 : decode cX12_product 53 = .ok (.aload_n 0, 1) := by decide +kernel
theorem dX12_product_54 : decode cX12_product 54 = .ok (.invokevirtual 198, 3) := by decide +kernel
theorem dX12_product_57 : decode cX12_product 57 = .ok (.aload_n 0, 1) := by decide +kernel
theorem dX12_product_58 : decode cX12_product 58 = .ok (.iload_n 1, 1) := by decide +kernel
theorem dX12_product_59 : decode cX12_product 59 = .ok (.iconst 0, 1) := by decide +kernel
theorem dX12_product_60 : decode cX12_product 60 = .ok (.invokevirtual 186, 3) := by decide +kernel
theorem dX12_product_63 : decode cX12_product 63 = .ok (.goto (-59), 3) := by decide +kernel
theorem dX12_product_66 : decode cX12_product 66 = .ok (.return_, 1) := by decide +kernel
theorem dX12_sum_0 : decode cX12_sum 0 = .ok (.aload_n 0, 1) := by decide +kernel
theorem dX12_sum_1 : decode cX12_sum 1 = .ok (.invokevirtual 207, 3) := by decide +kernel
theorem dX12_sum_4 : decode cX12_sum 4 = .ok (.aload_n 0, 1) := by decide +kernel
theorem dX12_sum_5 : decode cX12_sum 5 = .ok (.getfield 170, 3) := by decide +kernel
theorem dX12_sum_8 : decode cX12_sum 8 = .ok (.ifCond .ge 49, 3) := by decide +kernel
theorem dX12_sum_11 : decode cX12_sum 11 = .ok (.aload_n 0, 1) := by decide +kernel
theorem dX12_sum_12 : decode cX12_sum 12 = .ok (.invokevirtual 182, 3) := by decide +kernel
theorem dX12_sum_15 : decode cX12_sum 15 = .ok (.bipush 43, 2) := by decide +kernel
theorem dX12_sum_17 : decode cX12_sum 17 = .ok (.if_icmp .eq 12, 3) := by decide +kernel
theorem dX12_sum_20 : decode cX12_sum 20 = .ok (.aload_n 0, 1) := by decide +kernel
theorem dX12_sum_21 : decode cX12_sum 21 = .ok (.invokevirtual 182, 3) := by decide +kernel
theorem dX12_sum_24 : decode cX12_sum 24 = .ok (.bipush 45, 2) := by decide +kernel
theorem dX12_sum_26 : decode cX12_sum 26 = .ok (.if_icmp .ne 31, 3) := by decide +kernel
theorem dX12_sum_29 : decode cX12_sum 29 = .ok (.aload_n 0, 1) := by decide +kernel
theorem dX12_sum_30 : decode cX12_sum 30 = .ok (.invokevirtual 182, 3) := by decide +kernel
theorem dX12_sum_33 : decode cX12_sum 33 = .ok (.istore_n 1, 1) := by decide +kernel
theorem dX12_sum_34 : decode cX12_sum 34 = .ok (.aload_n 0, 1) := by decide +kernel
theorem dX12_sum_35 : decode cX12_sum 35 = .ok (.dup, 1) := by decide +kernel
theorem dX12_sum_36 : decode cX12_sum 36 = .ok (.getfield 167, 3) := by decide +kernel
theorem dX12_sum_39 : decode cX12_sum 39 = .ok (.iconst 1, 1) := by decide +kernel
theorem dX12_sum_40 : decode cX12_sum 40 = .ok (.iadd, 1) := by decide +kernel
theorem dX12_sum_41 : decode cX12_sum 41 = .ok (.putfield 167, 3) := by decide +kernel
theorem dX12_sum_44 : decode cX12_sum 44 = .ok (.aload_n 0, 1) := by decide +kernel
theorem dX12_sum_45 : decode cX12_sum 45 = .ok (.invokevirtual 207, 3) := by decide +kernel
theorem dX12_sum_48 : decode cX12_sum 48 = .ok (.aload_n 0, 1) := by decide +kernel
theorem dX12_sum_49 : decode cX12_sum 49 = .ok (.iload_n 1, 1) := by decide +kernel
theorem dX12_sum_50 : decode cX12_sum 50 = .ok (.iconst 0, 1) := by decide +kernel
theorem dX12_sum_51 : decode cX12_sum 51 = .ok (.invokevirtual 186, 3) := by decide +kernel
theorem dX12_sum_54 : decode cX12_sum 54 = .ok (.goto (-50), 3) := by decide +kernel
theorem dX12_sum_57 : decode cX12_sum 57 = .ok (.return_, 1) := by decide +kernel
theorem dX12_compared_0 : decode cX12_compared 0 = .ok (.aload_n 0, 1) := by decide +kernel
theorem dX12_compared_1 : decode cX12_compared 1 = .ok (.invokevirtual 210, 3) := by decide +kernel
theorem dX12_compared_4 : decode cX12_compared 4 = .ok (.aload_n 0, 1) := by decide +kernel
theorem dX12_compared_5 : decode cX12_compared 5 = .ok (.invokevirtual 182, 3) := by decide +kernel
theorem dX12_compared_8 : decode cX12_compared 8 = .ok (.istore_n 1, 1) := by decide +kernel
theorem dX12_compared_9 : decode cX12_compared 9 = .ok (.aload_n 0, 1) := by decide +kernel
theorem dX12_compared_10 : decode cX12_compared 10 = .ok (.getfield 170, 3) := by decide +kernel
theorem dX12_compared_13 : decode cX12_compared 13 = .ok (.ifCond .ge 21, 3) := by decide +kernel
theorem dX12_compared_16 : decode cX12_compared 16 = .ok (.iload_n 1, 1) := by decide +kernel
theorem dX12_compared_17 : decode cX12_compared 17 = .ok (.bipush 60, 2) := by decide +kernel
theorem dX12_compared_19 : decode cX12_compared 19 = .ok (.if_icmp .eq 16, 3) := by decide +kernel
theorem dX12_compared_22 : decode cX12_compared 22 = .ok (.iload_n 1, 1) := by decide +kernel
theorem dX12_compared_23 : decode cX12_compared 23 = .ok (.bipush 61, 2) := by decide +kernel
theorem dX12_compared_25 : decode cX12_compared 25 = .ok (.if_icmp .eq 10, 3) := by decide +kernel
theorem dX12_compared_28 : decode cX12_compared 28 = .ok (.iload_n 1, 1) := by decide +kernel
theorem dX12_compared_29 : decode cX12_compared 29 = .ok (.bipush 62, 2) := by decide +kernel
theorem dX12_compared_31 : decode cX12_compared 31 = .ok (.if_icmp .eq 4, 3) := by decide +kernel
theorem dX12_compared_34 : decode cX12_compared 34 = .ok (.return_, 1) := by decide +kernel
theorem dX12_compared_35 : decode cX12_compared 35 = .ok (.aload_n 0, 1) := by decide +kernel
theorem dX12_compared_36 : decode cX12_compared 36 = .ok (.dup, 1) := by decide +kernel
theorem dX12_compared_37 : decode cX12_compared 37 = .ok (.getfield 167, 3) := by decide +kernel
theorem dX12_compared_40 : decode cX12_compared 40 = .ok (.iconst 1, 1) := by decide +kernel
theorem dX12_compared_41 : decode cX12_compared 41 = .ok (.iadd, 1) := by decide +kernel
theorem dX12_compared_42 : decode cX12_compared 42 = .ok (.putfield 167, 3) := by decide +kernel
theorem dX12_compared_45 : decode cX12_compared 45 = .ok (.aload_n 0, 1) := by decide +kernel
theorem dX12_compared_46 : decode cX12_compared 46 = .ok (.invokevirtual 210, 3) := by decide +kernel
theorem dX12_compared_49 : decode cX12_compared 49 = .ok (.aload_n 0, 1) := by decide +kernel
theorem dX12_compared_50 : decode cX12_compared 50 = .ok (.iload_n 1, 1) := by decide +kernel
theorem dX12_compared_51 : decode cX12_compared 51 = .ok (.iconst 0, 1) := by decide +kernel
theorem dX12_compared_52 : decode cX12_compared 52 = .ok (.invokevirtual 186, 3) := by decide +kernel
theorem dX12_compared_55 : decode cX12_compared 55 = .ok (.return_, 1) := by decide +kernel
theorem dX12_both_0 : decode cX12_both 0 = .ok (.aload_n 0, 1) := by decide +kernel
theorem dX12_both_1 : decode cX12_both 1 = .ok (.invokevirtual 213, 3) := by decide +kernel
theorem dX12_both_4 : decode cX12_both 4 = .ok (.aload_n 0, 1) := by decide +kernel
theorem dX12_both_5 : decode cX12_both 5 = .ok (.getfield 170, 3) := by decide +kernel
theorem dX12_both_8 : decode cX12_both 8 = .ok (.ifCond .ge 36, 3) := by decide +kernel
theorem dX12_both_11 : decode cX12_both 11 = .ok (.aload_n 0, 1) := by decide +kernel
theorem dX12_both_12 : decode cX12_both 12 = .ok (.invokevirtual 182, 3) := by decide +kernel
theorem dX12_both_15 : decode cX12_both 15 = .ok (.bipush 38, 2) := by decide +kernel
theorem dX12_both_17 : decode cX12_both 17 = .ok (.if_icmp .ne 27, 3) := by decide +kernel
theorem dX12_both_20 : decode cX12_both 20 = .ok (.aload_n 0, 1) := by decide +kernel
theorem dX12_both_21 : decode cX12_both 21 = .ok (.dup, 1) := by decide +kernel
theorem dX12_both_22 : decode cX12_both 22 = .ok (.getfield 167, 3) := by decide +kernel
theorem dX12_both_25 : decode cX12_both 25 = .ok (.iconst 1, 1) := by decide +kernel
theorem dX12_both_26 : decode cX12_both 26 = .ok (.iadd, 1) := by decide +kernel
theorem dX12_both_27 : decode cX12_both 27 = .ok (.putfield 167, 3) := by decide +kernel
theorem dX12_both_30 : decode cX12_both 30 = .ok (.aload_n 0, 1) := by decide +kernel
theorem dX12_both_31 : decode cX12_both 31 = .ok (.invokevirtual 213, 3) := by decide +kernel
theorem dX12_both_34 : decode cX12_both 34 = .ok (.aload_n 0, 1) := by decide +kernel
theorem dX12_both_35 : decode cX12_both 35 = .ok (.bipush 38, 2) := by decide +kernel
theorem dX12_both_37 : decode cX12_both 37 = .ok (.iconst 0, 1) := by decide +kernel
theorem dX12_both_38 : decode cX12_both 38 = .ok (.invokevirtual 186, 3) := by decide +kernel
theorem dX12_both_41 : decode cX12_both 41 = .ok (.goto (-37), 3) := by decide +kernel
theorem dX12_both_44 : decode cX12_both 44 = .ok (.return_, 1) := by decide +kernel
theorem dX12_either_0 : decode cX12_either 0 = .ok (.aload_n 0, 1) := by decide +kernel
theorem dX12_either_1 : decode cX12_either 1 = .ok (.invokevirtual 216, 3) := by decide +kernel
theorem dX12_either_4 : decode cX12_either 4 = .ok (.aload_n 0, 1) := by decide +kernel
theorem dX12_either_5 : decode cX12_either 5 = .ok (.getfield 170, 3) := by decide +kernel
theorem dX12_either_8 : decode cX12_either 8 = .ok (.ifCond .ge 36, 3) := by decide +kernel
theorem dX12_either_11 : decode cX12_either 11 = .ok (.aload_n 0, 1) := by decide +kernel
theorem dX12_either_12 : decode cX12_either 12 = .ok (.invokevirtual 182, 3) := by decide +kernel
theorem dX12_either_15 : decode cX12_either 15 = .ok (.bipush 124, 2) := by decide +kernel
theorem dX12_either_17 : decode cX12_either 17 = .ok (.if_icmp .ne 27, 3) := by decide +kernel
theorem dX12_either_20 : decode cX12_either 20 = .ok (.aload_n 0, 1) := by decide +kernel
theorem dX12_either_21 : decode cX12_either 21 = .ok (.dup, 1) := by decide +kernel
theorem dX12_either_22 : decode cX12_either 22 = .ok (.getfield 167, 3) := by decide +kernel
theorem dX12_either_25 : decode cX12_either 25 = .ok (.iconst 1, 1) := by decide +kernel
theorem dX12_either_26 : decode cX12_either 26 = .ok (.iadd, 1) := by decide +kernel
theorem dX12_either_27 : decode cX12_either 27 = .ok (.putfield 167, 3) := by decide +kernel
theorem dX12_either_30 : decode cX12_either 30 = .ok (.aload_n 0, 1) := by decide +kernel
theorem dX12_either_31 : decode cX12_either 31 = .ok (.invokevirtual 216, 3) := by decide +kernel
theorem dX12_either_34 : decode cX12_either 34 = .ok (.aload_n 0, 1) := by decide +kernel
theorem dX12_either_35 : decode cX12_either 35 = .ok (.bipush 124, 2) := by decide +kernel
theorem dX12_either_37 : decode cX12_either 37 = .ok (.iconst 0, 1) := by decide +kernel
theorem dX12_either_38 : decode cX12_either 38 = .ok (.invokevirtual 186, 3) := by decide +kernel
theorem dX12_either_41 : decode cX12_either 41 = .ok (.goto (-37), 3) := by decide +kernel
theorem dX12_either_44 : decode cX12_either 44 = .ok (.return_, 1) := by decide +kernel
theorem dX12_line_0 : decode cX12_line 0 = .ok (.bipush 61, 2) := by decide +kernel
theorem dX12_line_2 : decode cX12_line 2 = .ok (.aload_n 0, 1) := by decide +kernel
theorem dX12_line_3 : decode cX12_line 3 = .ok (.getfield 46, 3) := by decide +kernel
theorem dX12_line_6 : decode cX12_line 6 = .ok (.iconst 1, 1) := by decide +kernel
theorem dX12_line_7 : decode cX12_line 7 = .ok (.iaload, 1) := by decide +kernel
theorem dX12_line_8 : decode cX12_line 8 = .ok (.iadd, 1) := by decide +kernel
theorem dX12_line_9 : decode cX12_line 9 = .ok (.istore_n 1, 1) := by decide +kernel
theorem dX12_line_10 : decode cX12_line 10 = .ok (.aload_n 0, 1) := by decide +kernel
theorem dX12_line_11 : decode cX12_line 11 = .ok (.getfield 49, 3) := by decide +kernel
theorem dX12_line_14 : decode cX12_line 14 = .ok (.iload_n 1, 1) := by decide +kernel
theorem dX12_line_15 : decode cX12_line 15 = .ok (.aload_n 0, 1) := by decide +kernel
theorem dX12_line_16 : decode cX12_line 16 = .ok (.getfield 173, 3) := by decide +kernel
theorem dX12_line_19 : decode cX12_line 19 = .ok (.i2s, 1) := by decide +kernel
theorem dX12_line_20 : decode cX12_line 20 = .ok (.sastore, 1) := by decide +kernel
theorem dX12_line_21 : decode cX12_line 21 = .ok (.aload_n 0, 1) := by decide +kernel
theorem dX12_line_22 : decode cX12_line 22 = .ok (.invokevirtual 201, 3) := by decide +kernel
theorem dX12_line_25 : decode cX12_line 25 = .ok (.aload_n 0, 1) := by decide +kernel
theorem dX12_line_26 : decode cX12_line 26 = .ok (.getfield 170, 3) := by decide +kernel
theorem dX12_line_29 : decode cX12_line 29 = .ok (.ifCond .ge 37, 3) := by decide +kernel
theorem dX12_line_32 : decode cX12_line 32 = .ok (.aload_n 0, 1) := by decide +kernel
theorem dX12_line_33 : decode cX12_line 33 = .ok (.invokevirtual 182, 3) := by decide +kernel
theorem dX12_line_36 : decode cX12_line 36 = .ok (.bipush 63, 2) := by decide +kernel
theorem dX12_line_38 : decode cX12_line 38 = .ok (.if_icmp .ne 28, 3) := by decide +kernel
theorem dX12_line_41 : decode cX12_line 41 = .ok (.aload_n 0, 1) := by decide +kernel
theorem dX12_line_42 : decode cX12_line 42 = .ok (.dup, 1) := by decide +kernel
theorem dX12_line_43 : decode cX12_line 43 = .ok (.getfield 167, 3) := by decide +kernel
theorem dX12_line_46 : decode cX12_line 46 = .ok (.iconst 1, 1) := by decide +kernel
theorem dX12_line_47 : decode cX12_line 47 = .ok (.iadd, 1) := by decide +kernel
theorem dX12_line_48 : decode cX12_line 48 = .ok (.putfield 167, 3) := by decide +kernel
theorem dX12_line_51 : decode cX12_line 51 = .ok (.aload_n 0, 1) := by decide +kernel
theorem dX12_line_52 : decode cX12_line 52 = .ok (.getfield 49, 3) := by decide +kernel
theorem dX12_line_55 : decode cX12_line 55 = .ok (.iload_n 1, 1) := by decide +kernel
theorem dX12_line_56 : decode cX12_line 56 = .ok (.aload_n 0, 1) := by decide +kernel
theorem dX12_line_57 : decode cX12_line 57 = .ok (.getfield 173, 3) := by decide +kernel
theorem dX12_line_60 : decode cX12_line 60 = .ok (.i2s, 1) := by decide +kernel
theorem dX12_line_61 : decode cX12_line 61 = .ok (.sastore, 1) := by decide +kernel
theorem dX12_line_62 : decode cX12_line 62 = .ok (.aload_n 0, 1) := by decide +kernel
theorem dX12_line_63 : decode cX12_line 63 = .ok (.invokevirtual 201, 3) := by decide +kernel
theorem dX12_line_66 : decode cX12_line 66 = .ok (.aload_n 0, 1) := by decide +kernel
theorem dX12_line_67 : decode cX12_line 67 = .ok (.getfield 53, 3) := by decide +kernel
theorem dX12_line_70 : decode cX12_line 70 = .ok (.iload_n 1, 1) := by decide +kernel
theorem dX12_line_71 : decode cX12_line 71 = .ok (.aload_n 0, 1) := by decide +kernel
theorem dX12_line_72 : decode cX12_line 72 = .ok (.getfield 173, 3) := by decide +kernel
theorem dX12_line_75 : decode cX12_line 75 = .ok (.i2s, 1) := by decide +kernel
theorem dX12_line_76 : decode cX12_line 76 = .ok (.sastore, 1) := by decide +kernel
theorem dX12_line_77 : decode cX12_line 77 = .ok (.aload_n 0, 1) := by decide +kernel
theorem dX12_line_78 : decode cX12_line 78 = .ok (.getfield 46, 3) := by decide +kernel
theorem dX12_line_81 : decode cX12_line 81 = .ok (.iconst 1, 1) := by decide +kernel
theorem dX12_line_82 : decode cX12_line 82 = .ok (.dup2, 1) := by decide +kernel
theorem dX12_line_83 : decode cX12_line 83 = .ok (.iaload, 1) := by decide +kernel
theorem dX12_line_84 : decode cX12_line 84 = .ok (.iconst 1, 1) := by decide +kernel
theorem dX12_line_85 : decode cX12_line 85 = .ok (.iadd, 1) := by decide +kernel
theorem dX12_line_86 : decode cX12_line 86 = .ok (.iastore, 1) := by decide +kernel
theorem dX12_line_87 : decode cX12_line 87 = .ok (.return_, 1) := by decide +kernel
theorem dX12_readText_0 : decode cX12_readText 0 = .ok (.aload_n 0, 1) := by decide +kernel
theorem dX12_readText_1 : decode cX12_readText 1 = .ok (.iconst 0, 1) := by decide +kernel
theorem dX12_readText_2 : decode cX12_readText 2 = .ok (.putfield 167, 3) := by decide +kernel
theorem dX12_readText_5 : decode cX12_readText 5 = .ok (.aload_n 0, 1) := by decide +kernel
theorem dX12_readText_6 : decode cX12_readText 6 = .ok (.iconst (-1), 1) := by decide +kernel
theorem dX12_readText_7 : decode cX12_readText 7 = .ok (.putfield 170, 3) := by decide +kernel
theorem dX12_readText_10 : decode cX12_readText 10 = .ok (.aload_n 0, 1) := by decide +kernel
theorem dX12_readText_11 : decode cX12_readText 11 = .ok (.iconst 0, 1) := by decide +kernel
theorem dX12_readText_12 : decode cX12_readText 12 = .ok (.putfield 176, 3) := by decide +kernel
theorem dX12_readText_15 : decode cX12_readText 15 = .ok (.aload_n 0, 1) := by decide +kernel
theorem dX12_readText_16 : decode cX12_readText 16 = .ok (.iconst 0, 1) := by decide +kernel
theorem dX12_readText_17 : decode cX12_readText 17 = .ok (.putfield 173, 3) := by decide +kernel
theorem dX12_readText_20 : decode cX12_readText 20 = .ok (.aload_n 0, 1) := by decide +kernel
theorem dX12_readText_21 : decode cX12_readText 21 = .ok (.getfield 46, 3) := by decide +kernel
theorem dX12_readText_24 : decode cX12_readText 24 = .ok (.iconst 1, 1) := by decide +kernel
theorem dX12_readText_25 : decode cX12_readText 25 = .ok (.iconst 0, 1) := by decide +kernel
theorem dX12_readText_26 : decode cX12_readText 26 = .ok (.iastore, 1) := by decide +kernel
theorem dX12_readText_27 : decode cX12_readText 27 = .ok (.aload_n 0, 1) := by decide +kernel
theorem dX12_readText_28 : decode cX12_readText 28 = .ok (.invokevirtual 219, 3) := by decide +kernel
theorem dX12_readText_31 : decode cX12_readText 31 = .ok (.aload_n 0, 1) := by decide +kernel
theorem dX12_readText_32 : decode cX12_readText 32 = .ok (.getfield 170, 3) := by decide +kernel
theorem dX12_readText_35 : decode cX12_readText 35 = .ok (.ifCond .ge 29, 3) := by decide +kernel
theorem dX12_readText_38 : decode cX12_readText 38 = .ok (.aload_n 0, 1) := by decide +kernel
theorem dX12_readText_39 : decode cX12_readText 39 = .ok (.invokevirtual 182, 3) := by decide +kernel
theorem dX12_readText_42 : decode cX12_readText 42 = .ok (.bipush 59, 2) := by decide +kernel
theorem dX12_readText_44 : decode cX12_readText 44 = .ok (.if_icmp .ne 20, 3) := by decide +kernel
theorem dX12_readText_47 : decode cX12_readText 47 = .ok (.aload_n 0, 1) := by decide +kernel
theorem dX12_readText_48 : decode cX12_readText 48 = .ok (.dup, 1) := by decide +kernel
theorem dX12_readText_49 : decode cX12_readText 49 = .ok (.getfield 167, 3) := by decide +kernel
theorem dX12_readText_52 : decode cX12_readText 52 = .ok (.iconst 1, 1) := by decide +kernel
theorem dX12_readText_53 : decode cX12_readText 53 = .ok (.iadd, 1) := by decide +kernel
theorem dX12_readText_54 : decode cX12_readText 54 = .ok (.putfield 167, 3) := by decide +kernel
theorem dX12_readText_57 : decode cX12_readText 57 = .ok (.aload_n 0, 1) := by decide +kernel
theorem dX12_readText_58 : decode cX12_readText 58 = .ok (.invokevirtual 219, 3) := by decide +kernel
theorem dX12_readText_61 : decode cX12_readText 61 = .ok (.goto (-30), 3) := by decide +kernel
theorem dX12_readText_64 : decode cX12_readText 64 = .ok (.aload_n 0, 1) := by decide +kernel
theorem dX12_readText_65 : decode cX12_readText 65 = .ok (.getfield 170, 3) := by decide +kernel
theorem dX12_readText_68 : decode cX12_readText 68 = .ok (.ifCond .ge 18, 3) := by decide +kernel
theorem dX12_readText_71 : decode cX12_readText 71 = .ok (.aload_n 0, 1) := by decide +kernel
theorem dX12_readText_72 : decode cX12_readText 72 = .ok (.getfield 167, 3) := by decide +kernel
theorem dX12_readText_75 : decode cX12_readText 75 = .ok (.aload_n 0, 1) := by decide +kernel
theorem dX12_readText_76 : decode cX12_readText 76 = .ok (.getfield 164, 3) := by decide +kernel
theorem dX12_readText_79 : decode cX12_readText 79 = .ok (.if_icmp .ge 7, 3) := by decide +kernel
theorem dX12_readText_82 : decode cX12_readText 82 = .ok (.aload_n 0, 1) := by decide +kernel
theorem dX12_readText_83 : decode cX12_readText 83 = .ok (.invokevirtual 179, 3) := by decide +kernel
theorem dX12_readText_86 : decode cX12_readText 86 = .ok (.aload_n 0, 1) := by decide +kernel
theorem dX12_readText_87 : decode cX12_readText 87 = .ok (.iconst 0, 1) := by decide +kernel
theorem dX12_readText_88 : decode cX12_readText 88 = .ok (.putfield 164, 3) := by decide +kernel
theorem dX12_readText_91 : decode cX12_readText 91 = .ok (.aload_n 0, 1) := by decide +kernel
theorem dX12_readText_92 : decode cX12_readText 92 = .ok (.getfield 170, 3) := by decide +kernel
theorem dX12_readText_95 : decode cX12_readText 95 = .ok (.ifCond .lt 8, 3) := by decide +kernel
theorem dX12_readText_98 : decode cX12_readText 98 = .ok (.aload_n 0, 1) := by decide +kernel
theorem dX12_readText_99 : decode cX12_readText 99 = .ok (.getfield 170, 3) := by decide +kernel
theorem dX12_readText_102 : decode cX12_readText 102 = .ok (.ireturn, 1) := by decide +kernel
theorem dX12_readText_103 : decode cX12_readText 103 = .ok (.iconst 0, 1) := by decide +kernel
theorem dX12_readText_104 : decode cX12_readText 104 = .ok (.istore_n 2, 1) := by decide +kernel
theorem dX12_readText_105 : decode cX12_readText 105 = .ok (.iload_n 2, 1) := by decide +kernel
theorem dX12_readText_106 : decode cX12_readText 106 = .ok (.aload_n 0, 1) := by decide +kernel
theorem dX12_readText_107 : decode cX12_readText 107 = .ok (.getfield 173, 3) := by decide +kernel
theorem dX12_readText_110 : decode cX12_readText 110 = .ok (.if_icmp .ge 53, 3) := by decide +kernel
theorem dX12_readText_113 : decode cX12_readText 113 = .ok (.aload_n 0, 1) := by decide +kernel
theorem dX12_readText_114 : decode cX12_readText 114 = .ok (.getfield 40, 3) := by decide +kernel
theorem dX12_readText_117 : decode cX12_readText 117 = .ok (.sipush 130, 3) := by decide +kernel
theorem dX12_readText_120 : decode cX12_readText 120 = .ok (.iload_n 1, 1) := by decide +kernel
theorem dX12_readText_121 : decode cX12_readText 121 = .ok (.imul, 1) := by decide +kernel
theorem dX12_readText_122 : decode cX12_readText 122 = .ok (.iload_n 2, 1) := by decide +kernel
theorem dX12_readText_123 : decode cX12_readText 123 = .ok (.iadd, 1) := by decide +kernel
theorem dX12_readText_124 : decode cX12_readText 124 = .ok (.aload_n 0, 1) := by decide +kernel
theorem dX12_readText_125 : decode cX12_readText 125 = .ok (.getfield 40, 3) := by decide +kernel
theorem dX12_readText_128 : decode cX12_readText 128 = .ok (.sipush 130, 3) := by decide +kernel
theorem dX12_readText_131 : decode cX12_readText 131 = .ok (.iload_n 2, 1) := by decide +kernel
theorem dX12_readText_132 : decode cX12_readText 132 = .ok (.iadd, 1) := by decide +kernel
theorem dX12_readText_133 : decode cX12_readText 133 = .ok (.baload, 1) := by decide +kernel
theorem dX12_readText_134 : decode cX12_readText 134 = .ok (.bastore, 1) := by decide +kernel
theorem dX12_readText_135 : decode cX12_readText 135 = .ok (.aload_n 0, 1) := by decide +kernel
theorem dX12_readText_136 : decode cX12_readText 136 = .ok (.getfield 43, 3) := by decide +kernel
theorem dX12_readText_139 : decode cX12_readText 139 = .ok (.sipush 130, 3) := by decide +kernel
theorem dX12_readText_142 : decode cX12_readText 142 = .ok (.iload_n 1, 1) := by decide +kernel
theorem dX12_readText_143 : decode cX12_readText 143 = .ok (.imul, 1) := by decide +kernel
theorem dX12_readText_144 : decode cX12_readText 144 = .ok (.iload_n 2, 1) := by decide +kernel
theorem dX12_readText_145 : decode cX12_readText 145 = .ok (.iadd, 1) := by decide +kernel
theorem dX12_readText_146 : decode cX12_readText 146 = .ok (.aload_n 0, 1) := by decide +kernel
theorem dX12_readText_147 : decode cX12_readText 147 = .ok (.getfield 43, 3) := by decide +kernel
theorem dX12_readText_150 : decode cX12_readText 150 = .ok (.sipush 130, 3) := by decide +kernel
theorem dX12_readText_153 : decode cX12_readText 153 = .ok (.iload_n 2, 1) := by decide +kernel
theorem dX12_readText_154 : decode cX12_readText 154 = .ok (.iadd, 1) := by decide +kernel
theorem dX12_readText_155 : decode cX12_readText 155 = .ok (.iaload, 1) := by decide +kernel
theorem dX12_readText_156 : decode cX12_readText 156 = .ok (.iastore, 1) := by decide +kernel
theorem dX12_readText_157 : decode cX12_readText 157 = .ok (.iinc 2 1, 3) := by decide +kernel
theorem dX12_readText_160 : decode cX12_readText 160 = .ok (.goto (-55), 3) := by decide +kernel
theorem dX12_readText_163 : decode cX12_readText 163 = .ok (.aload_n 0, 1) := by decide +kernel
theorem dX12_readText_164 : decode cX12_readText 164 = .ok (.getfield 46, 3) := by decide +kernel
theorem dX12_readText_167 : decode cX12_readText 167 = .ok (.iload_n 1, 1) := by decide +kernel
theorem dX12_readText_168 : decode cX12_readText 168 = .ok (.aload_n 0, 1) := by decide +kernel
theorem dX12_readText_169 : decode cX12_readText 169 = .ok (.getfield 46, 3) := by decide +kernel
theorem dX12_readText_172 : decode cX12_readText 172 = .ok (.iconst 1, 1) := by decide +kernel
theorem dX12_readText_173 : decode cX12_readText 173 = .ok (.iaload, 1) := by decide +kernel
theorem dX12_readText_174 : decode cX12_readText 174 = .ok (.iastore, 1) := by decide +kernel
theorem dX12_readText_175 : decode cX12_readText 175 = .ok (.iconst 0, 1) := by decide +kernel
theorem dX12_readText_176 : decode cX12_readText 176 = .ok (.istore_n 2, 1) := by decide +kernel
theorem dX12_readText_177 : decode cX12_readText 177 = .ok (.iload_n 2, 1) := by decide +kernel
theorem dX12_readText_178 : decode cX12_readText 178 = .ok (.aload_n 0, 1) := by decide +kernel
theorem dX12_readText_179 : decode cX12_readText 179 = .ok (.getfield 46, 3) := by decide +kernel
theorem dX12_readText_182 : decode cX12_readText 182 = .ok (.iload_n 1, 1) := by decide +kernel
theorem dX12_readText_183 : decode cX12_readText 183 = .ok (.iaload, 1) := by decide +kernel
theorem dX12_readText_184 : decode cX12_readText 184 = .ok (.if_icmp .ge 49, 3) := by decide +kernel
theorem dX12_readText_187 : decode cX12_readText 187 = .ok (.aload_n 0, 1) := by decide +kernel
theorem dX12_readText_188 : decode cX12_readText 188 = .ok (.getfield 49, 3) := by decide +kernel
theorem dX12_readText_191 : decode cX12_readText 191 = .ok (.bipush 61, 2) := by decide +kernel
theorem dX12_readText_193 : decode cX12_readText 193 = .ok (.iload_n 1, 1) := by decide +kernel
theorem dX12_readText_194 : decode cX12_readText 194 = .ok (.imul, 1) := by decide +kernel
theorem dX12_readText_195 : decode cX12_readText 195 = .ok (.iload_n 2, 1) := by decide +kernel
theorem dX12_readText_196 : decode cX12_readText 196 = .ok (.iadd, 1) := by decide +kernel
theorem dX12_readText_197 : decode cX12_readText 197 = .ok (.aload_n 0, 1) := by decide +kernel
theorem dX12_readText_198 : decode cX12_readText 198 = .ok (.getfield 49, 3) := by decide +kernel
theorem dX12_readText_201 : decode cX12_readText 201 = .ok (.bipush 61, 2) := by decide +kernel
theorem dX12_readText_203 : decode cX12_readText 203 = .ok (.iload_n 2, 1) := by decide +kernel
theorem dX12_readText_204 : decode cX12_readText 204 = .ok (.iadd, 1) := by decide +kernel
theorem dX12_readText_205 : decode cX12_readText 205 = .ok (.saload, 1) := by decide +kernel
theorem dX12_readText_206 : decode cX12_readText 206 = .ok (.sastore, 1) := by decide +kernel
theorem dX12_readText_207 : decode cX12_readText 207 = .ok (.aload_n 0, 1) := by decide +kernel
theorem dX12_readText_208 : decode cX12_readText 208 = .ok (.getfield 53, 3) := by decide +kernel
theorem dX12_readText_211 : decode cX12_readText 211 = .ok (.bipush 61, 2) := by decide +kernel
theorem dX12_readText_213 : decode cX12_readText 213 = .ok (.iload_n 1, 1) := by decide +kernel
theorem dX12_readText_214 : decode cX12_readText 214 = .ok (.imul, 1) := by decide +kernel
theorem dX12_readText_215 : decode cX12_readText 215 = .ok (.iload_n 2, 1) := by decide +kernel
theorem dX12_readText_216 : decode cX12_readText 216 = .ok (.iadd, 1) := by decide +kernel
theorem dX12_readText_217 : decode cX12_readText 217 = .ok (.aload_n 0, 1) := by decide +kernel
theorem dX12_readText_218 : decode cX12_readText 218 = .ok (.getfield 53, 3) := by decide +kernel
theorem dX12_readText_221 : decode cX12_readText 221 = .ok (.bipush 61, 2) := by decide +kernel
theorem dX12_readText_223 : decode cX12_readText 223 = .ok (.iload_n 2, 1) := by decide +kernel
theorem dX12_readText_224 : decode cX12_readText 224 = .ok (.iadd, 1) := by decide +kernel
theorem dX12_readText_225 : decode cX12_readText 225 = .ok (.saload, 1) := by decide +kernel
theorem dX12_readText_226 : decode cX12_readText 226 = .ok (.sastore, 1) := by decide +kernel
theorem dX12_readText_227 : decode cX12_readText 227 = .ok (.iinc 2 1, 3) := by decide +kernel
theorem dX12_readText_230 : decode cX12_readText 230 = .ok (.goto (-53), 3) := by decide +kernel
theorem dX12_readText_233 : decode cX12_readText 233 = .ok (.iconst (-1), 1) := by decide +kernel
theorem dX12_readText_234 : decode cX12_readText 234 = .ok (.ireturn, 1) := by decide +kernel
theorem dX12_twoOf_0 : decode cX12_twoOf 0 = .ok (.iload_n 0, 1) := by decide +kernel
theorem dX12_twoOf_1 : decode cX12_twoOf 1 = .ok (.tableswitch 217 37 62 #[153, 203, 217, 217, 217, 127, 119, 217, 123, 217, 131, 217, 217, 217, 217, 217, 217, 217, 217, 217, 217, 217, 217, 170, 181, 192], 119) := by decide +kernel
theorem dX12_twoOf_120 : decode cX12_twoOf 120 = .ok (.iload_n 1, 1) := by decide +kernel
theorem dX12_twoOf_121 : decode cX12_twoOf 121 = .ok (.iload_n 2, 1) := by decide +kernel
theorem dX12_twoOf_122 : decode cX12_twoOf 122 = .ok (.iadd, 1) := by decide +kernel
theorem dX12_twoOf_123 : decode cX12_twoOf 123 = .ok (.ireturn, 1) := by decide +kernel
theorem dX12_twoOf_124 : decode cX12_twoOf 124 = .ok (.iload_n 1, 1) := by decide +kernel
theorem dX12_twoOf_125 : decode cX12_twoOf 125 = .ok (.iload_n 2, 1) := by decide +kernel
theorem dX12_twoOf_126 : decode cX12_twoOf 126 = .ok (.isub, 1) := by decide +kernel
theorem dX12_twoOf_127 : decode cX12_twoOf 127 = .ok (.ireturn, 1) := by decide +kernel
theorem dX12_twoOf_128 : decode cX12_twoOf 128 = .ok (.iload_n 1, 1) := by decide +kernel
theorem dX12_twoOf_129 : decode cX12_twoOf 129 = .ok (.iload_n 2, 1) := by decide +kernel
theorem dX12_twoOf_130 : decode cX12_twoOf 130 = .ok (.imul, 1) := by decide +kernel
theorem dX12_twoOf_131 : decode cX12_twoOf 131 = .ok (.ireturn, 1) := by decide +kernel
theorem dX12_twoOf_132 : decode cX12_twoOf 132 = .ok (.iload_n 2, 1) := by decide +kernel
theorem dX12_twoOf_133 : decode cX12_twoOf 133 = .ok (.ifCond .ne 7, 3) := by decide +kernel
theorem dX12_twoOf_136 : decode cX12_twoOf 136 = .ok (.iconst 0, 1) := by decide +kernel
theorem dX12_twoOf_137 : decode cX12_twoOf 137 = .ok (.goto 16, 3) := by decide +kernel
theorem dX12_twoOf_140 : decode cX12_twoOf 140 = .ok (.iload_n 2, 1) := by decide +kernel
theorem dX12_twoOf_141 : decode cX12_twoOf 141 = .ok (.iconst (-1), 1) := by decide +kernel
theorem dX12_twoOf_142 : decode cX12_twoOf 142 = .ok (.if_icmp .ne 8, 3) := by decide +kernel
theorem dX12_twoOf_145 : decode cX12_twoOf 145 = .ok (.iload_n 1, 1) := by decide +kernel
theorem dX12_twoOf_146 : decode cX12_twoOf 146 = .ok (.ineg, 1) := by decide +kernel
theorem dX12_twoOf_147 : decode cX12_twoOf 147 = .ok (.goto 6, 3) := by decide +kernel
theorem dX12_twoOf_150 : decode cX12_twoOf 150 = .ok (.iload_n 1, 1) := by decide +kernel
theorem dX12_twoOf_151 : decode cX12_twoOf 151 = .ok (.iload_n 2, 1) := by decide +kernel
theorem dX12_twoOf_152 : decode cX12_twoOf 152 = .ok (.idiv, 1) := by decide +kernel
theorem dX12_twoOf_153 : decode cX12_twoOf 153 = .ok (.ireturn, 1) := by decide +kernel
theorem dX12_twoOf_154 : decode cX12_twoOf 154 = .ok (.iload_n 2, 1) := by decide +kernel
theorem dX12_twoOf_155 : decode cX12_twoOf 155 = .ok (.ifCond .eq 8, 3) := by decide +kernel
theorem dX12_twoOf_158 : decode cX12_twoOf 158 = .ok (.iload_n 2, 1) := by decide +kernel
theorem dX12_twoOf_159 : decode cX12_twoOf 159 = .ok (.iconst (-1), 1) := by decide +kernel
theorem dX12_twoOf_160 : decode cX12_twoOf 160 = .ok (.if_icmp .ne 7, 3) := by decide +kernel
theorem dX12_twoOf_163 : decode cX12_twoOf 163 = .ok (.iconst 0, 1) := by decide +kernel
theorem dX12_twoOf_164 : decode cX12_twoOf 164 = .ok (.goto 6, 3) := by decide +kernel
theorem dX12_twoOf_167 : decode cX12_twoOf 167 = .ok (.iload_n 1, 1) := by decide +kernel
theorem dX12_twoOf_168 : decode cX12_twoOf 168 = .ok (.iload_n 2, 1) := by decide +kernel
theorem dX12_twoOf_169 : decode cX12_twoOf 169 = .ok (.irem, 1) := by decide +kernel
theorem dX12_twoOf_170 : decode cX12_twoOf 170 = .ok (.ireturn, 1) := by decide +kernel
theorem dX12_twoOf_171 : decode cX12_twoOf 171 = .ok (.iload_n 1, 1) := by decide +kernel
theorem dX12_twoOf_172 : decode cX12_twoOf 172 = .ok (.iload_n 2, 1) := by decide +kernel
theorem dX12_twoOf_173 : decode cX12_twoOf 173 = .ok (.if_icmp .ge 7, 3) := by decide +kernel
theorem dX12_twoOf_176 : decode cX12_twoOf 176 = .ok (.iconst 1, 1) := by decide +kernel
theorem dX12_twoOf_177 : decode cX12_twoOf 177 = .ok (.goto 4, 3) := by decide +kernel
theorem dX12_twoOf_180 : decode cX12_twoOf 180 = .ok (.iconst 0, 1) := by decide +kernel
theorem dX12_twoOf_181 : decode cX12_twoOf 181 = .ok (.ireturn, 1) := by decide +kernel
theorem dX12_twoOf_182 : decode cX12_twoOf 182 = .ok (.iload_n 1, 1) := by decide +kernel
theorem dX12_twoOf_183 : decode cX12_twoOf 183 = .ok (.iload_n 2, 1) := by decide +kernel
theorem dX12_twoOf_184 : decode cX12_twoOf 184 = .ok (.if_icmp .ne 7, 3) := by decide +kernel
theorem dX12_twoOf_187 : decode cX12_twoOf 187 = .ok (.iconst 1, 1) := by decide +kernel
theorem dX12_twoOf_188 : decode cX12_twoOf 188 = .ok (.goto 4, 3) := by decide +kernel
theorem dX12_twoOf_191 : decode cX12_twoOf 191 = .ok (.iconst 0, 1) := by decide +kernel
theorem dX12_twoOf_192 : decode cX12_twoOf 192 = .ok (.ireturn, 1) := by decide +kernel
theorem dX12_twoOf_193 : decode cX12_twoOf 193 = .ok (.iload_n 1, 1) := by decide +kernel
theorem dX12_twoOf_194 : decode cX12_twoOf 194 = .ok (.iload_n 2, 1) := by decide +kernel
theorem dX12_twoOf_195 : decode cX12_twoOf 195 = .ok (.if_icmp .le 7, 3) := by decide +kernel
theorem dX12_twoOf_198 : decode cX12_twoOf 198 = .ok (.iconst 1, 1) := by decide +kernel
theorem dX12_twoOf_199 : decode cX12_twoOf 199 = .ok (.goto 4, 3) := by decide +kernel
theorem dX12_twoOf_202 : decode cX12_twoOf 202 = .ok (.iconst 0, 1) := by decide +kernel
theorem dX12_twoOf_203 : decode cX12_twoOf 203 = .ok (.ireturn, 1) := by decide +kernel
theorem dX12_twoOf_204 : decode cX12_twoOf 204 = .ok (.iload_n 1, 1) := by decide +kernel
theorem dX12_twoOf_205 : decode cX12_twoOf 205 = .ok (.ifCond .eq 11, 3) := by decide +kernel
theorem dX12_twoOf_208 : decode cX12_twoOf 208 = .ok (.iload_n 2, 1) := by decide +kernel
theorem dX12_twoOf_209 : decode cX12_twoOf 209 = .ok (.ifCond .eq 7, 3) := by decide +kernel
theorem dX12_twoOf_212 : decode cX12_twoOf 212 = .ok (.iconst 1, 1) := by decide +kernel
theorem dX12_twoOf_213 : decode cX12_twoOf 213 = .ok (.goto 4, 3) := by decide +kernel
theorem dX12_twoOf_216 : decode cX12_twoOf 216 = .ok (.iconst 0, 1) := by decide +kernel
theorem dX12_twoOf_217 : decode cX12_twoOf 217 = .ok (.ireturn, 1) := by decide +kernel
theorem dX12_twoOf_218 : decode cX12_twoOf 218 = .ok (.iload_n 1, 1) := by decide +kernel
theorem dX12_twoOf_219 : decode cX12_twoOf 219 = .ok (.ifCond .ne 7, 3) := by decide +kernel
theorem dX12_twoOf_222 : decode cX12_twoOf 222 = .ok (.iload_n 2, 1) := by decide +kernel
theorem dX12_twoOf_223 : decode cX12_twoOf 223 = .ok (.ifCond .eq 7, 3) := by decide +kernel
theorem dX12_twoOf_226 : decode cX12_twoOf 226 = .ok (.iconst 1, 1) := by decide +kernel
theorem dX12_twoOf_227 : decode cX12_twoOf 227 = .ok (.goto 4, 3) := by decide +kernel
theorem dX12_twoOf_230 : decode cX12_twoOf 230 = .ok (.iconst 0, 1) := by decide +kernel
theorem dX12_twoOf_231 : decode cX12_twoOf 231 = .ok (.ireturn, 1) := by decide +kernel
theorem dX12_worked_0 : decode cX12_worked 0 = .ok (.iconst 0, 1) := by decide +kernel
theorem dX12_worked_1 : decode cX12_worked 1 = .ok (.istore 4, 2) := by decide +kernel
theorem dX12_worked_3 : decode cX12_worked 3 = .ok (.sipush 130, 3) := by decide +kernel
theorem dX12_worked_6 : decode cX12_worked 6 = .ok (.iload_n 1, 1) := by decide +kernel
theorem dX12_worked_7 : decode cX12_worked 7 = .ok (.imul, 1) := by decide +kernel
theorem dX12_worked_8 : decode cX12_worked 8 = .ok (.iload_n 2, 1) := by decide +kernel
theorem dX12_worked_9 : decode cX12_worked 9 = .ok (.iadd, 1) := by decide +kernel
theorem dX12_worked_10 : decode cX12_worked 10 = .ok (.istore 5, 2) := by decide +kernel
theorem dX12_worked_12 : decode cX12_worked 12 = .ok (.iload 5, 2) := by decide +kernel
theorem dX12_worked_14 : decode cX12_worked 14 = .ok (.sipush 130, 3) := by decide +kernel
theorem dX12_worked_17 : decode cX12_worked 17 = .ok (.iload_n 1, 1) := by decide +kernel
theorem dX12_worked_18 : decode cX12_worked 18 = .ok (.imul, 1) := by decide +kernel
theorem dX12_worked_19 : decode cX12_worked 19 = .ok (.iload_n 3, 1) := by decide +kernel
theorem dX12_worked_20 : decode cX12_worked 20 = .ok (.iadd, 1) := by decide +kernel
theorem dX12_worked_21 : decode cX12_worked 21 = .ok (.if_icmp .ge 167, 3) := by decide +kernel
theorem dX12_worked_24 : decode cX12_worked 24 = .ok (.aload_n 0, 1) := by decide +kernel
theorem dX12_worked_25 : decode cX12_worked 25 = .ok (.getfield 40, 3) := by decide +kernel
theorem dX12_worked_28 : decode cX12_worked 28 = .ok (.iload 5, 2) := by decide +kernel
theorem dX12_worked_30 : decode cX12_worked 30 = .ok (.baload, 1) := by decide +kernel
theorem dX12_worked_31 : decode cX12_worked 31 = .ok (.istore 6, 2) := by decide +kernel
theorem dX12_worked_33 : decode cX12_worked 33 = .ok (.iload 6, 2) := by decide +kernel
theorem dX12_worked_35 : decode cX12_worked 35 = .ok (.iconst 1, 1) := by decide +kernel
theorem dX12_worked_36 : decode cX12_worked 36 = .ok (.if_icmp .eq 9, 3) := by decide +kernel
theorem dX12_worked_39 : decode cX12_worked 39 = .ok (.iload 6, 2) := by decide +kernel
theorem dX12_worked_41 : decode cX12_worked 41 = .ok (.iconst 2, 1) := by decide +kernel
theorem dX12_worked_42 : decode cX12_worked 42 = .ok (.if_icmp .ne 44, 3) := by decide +kernel
theorem dX12_worked_45 : decode cX12_worked 45 = .ok (.aload_n 0, 1) := by decide +kernel
theorem dX12_worked_46 : decode cX12_worked 46 = .ok (.getfield 59, 3) := by decide +kernel
theorem dX12_worked_49 : decode cX12_worked 49 = .ok (.iload 4, 2) := by decide +kernel
theorem dX12_worked_51 : decode cX12_worked 51 = .ok (.iload 6, 2) := by decide +kernel
theorem dX12_worked_53 : decode cX12_worked 53 = .ok (.iconst 1, 1) := by decide +kernel
theorem dX12_worked_54 : decode cX12_worked 54 = .ok (.if_icmp .ne 13, 3) := by decide +kernel
theorem dX12_worked_57 : decode cX12_worked 57 = .ok (.aload_n 0, 1) := by decide +kernel
theorem dX12_worked_58 : decode cX12_worked 58 = .ok (.getfield 43, 3) := by decide +kernel
theorem dX12_worked_61 : decode cX12_worked 61 = .ok (.iload 5, 2) := by decide +kernel
theorem dX12_worked_63 : decode cX12_worked 63 = .ok (.iaload, 1) := by decide +kernel
theorem dX12_worked_64 : decode cX12_worked 64 = .ok (.goto 15, 3) := by decide +kernel
theorem dX12_worked_67 : decode cX12_worked 67 = .ok (.aload_n 0, 1) := by decide +kernel
theorem dX12_worked_68 : decode cX12_worked 68 = .ok (.getfield 56, 3) := by decide +kernel
theorem dX12_worked_71 : decode cX12_worked 71 = .ok (.aload_n 0, 1) := by decide +kernel
theorem dX12_worked_72 : decode cX12_worked 72 = .ok (.getfield 43, 3) := by decide +kernel
theorem dX12_worked_75 : decode cX12_worked 75 = .ok (.iload 5, 2) := by decide +kernel
theorem dX12_worked_77 : decode cX12_worked 77 = .ok (.iaload, 1) := by decide +kernel
theorem dX12_worked_78 : decode cX12_worked 78 = .ok (.iaload, 1) := by decide +kernel
theorem dX12_worked_79 : decode cX12_worked 79 = .ok (.iastore, 1) := by decide +kernel
theorem dX12_worked_80 : decode cX12_worked 80 = .ok (.iinc 4 1, 3) := by decide +kernel
theorem dX12_worked_83 : decode cX12_worked 83 = .ok (.goto 99, 3) := by decide +kernel
theorem dX12_worked_86 : decode cX12_worked 86 = .ok (.iload 6, 2) := by decide +kernel
theorem dX12_worked_88 : decode cX12_worked 88 = .ok (.iconst 3, 1) := by decide +kernel
theorem dX12_worked_89 : decode cX12_worked 89 = .ok (.if_icmp .ne 32, 3) := by decide +kernel
theorem dX12_worked_92 : decode cX12_worked 92 = .ok (.aload_n 0, 1) := by decide +kernel
theorem dX12_worked_93 : decode cX12_worked 93 = .ok (.getfield 59, 3) := by decide +kernel
theorem dX12_worked_96 : decode cX12_worked 96 = .ok (.iload 4, 2) := by decide +kernel
theorem dX12_worked_98 : decode cX12_worked 98 = .ok (.iconst 1, 1) := by decide +kernel
theorem dX12_worked_99 : decode cX12_worked 99 = .ok (.isub, 1) := by decide +kernel
theorem dX12_worked_100 : decode cX12_worked 100 = .ok (.aload_n 0, 1) := by decide +kernel
theorem dX12_worked_101 : decode cX12_worked 101 = .ok (.getfield 59, 3) := by decide +kernel
theorem dX12_worked_104 : decode cX12_worked 104 = .ok (.iload 4, 2) := by decide +kernel
theorem dX12_worked_106 : decode cX12_worked 106 = .ok (.iconst 1, 1) := by decide +kernel
theorem dX12_worked_107 : decode cX12_worked 107 = .ok (.isub, 1) := by decide +kernel
theorem dX12_worked_108 : decode cX12_worked 108 = .ok (.iaload, 1) := by decide +kernel
theorem dX12_worked_109 : decode cX12_worked 109 = .ok (.ifCond .ne 7, 3) := by decide +kernel
theorem dX12_worked_112 : decode cX12_worked 112 = .ok (.iconst 1, 1) := by decide +kernel
theorem dX12_worked_113 : decode cX12_worked 113 = .ok (.goto 4, 3) := by decide +kernel
theorem dX12_worked_116 : decode cX12_worked 116 = .ok (.iconst 0, 1) := by decide +kernel
theorem dX12_worked_117 : decode cX12_worked 117 = .ok (.iastore, 1) := by decide +kernel
theorem dX12_worked_118 : decode cX12_worked 118 = .ok (.goto 64, 3) := by decide +kernel
theorem dX12_worked_121 : decode cX12_worked 121 = .ok (.iload 6, 2) := by decide +kernel
theorem dX12_worked_123 : decode cX12_worked 123 = .ok (.iconst 4, 1) := by decide +kernel
theorem dX12_worked_124 : decode cX12_worked 124 = .ok (.if_icmp .ne 25, 3) := by decide +kernel
theorem dX12_worked_127 : decode cX12_worked 127 = .ok (.aload_n 0, 1) := by decide +kernel
theorem dX12_worked_128 : decode cX12_worked 128 = .ok (.getfield 59, 3) := by decide +kernel
theorem dX12_worked_131 : decode cX12_worked 131 = .ok (.iload 4, 2) := by decide +kernel
theorem dX12_worked_133 : decode cX12_worked 133 = .ok (.iconst 1, 1) := by decide +kernel
theorem dX12_worked_134 : decode cX12_worked 134 = .ok (.isub, 1) := by decide +kernel
theorem dX12_worked_135 : decode cX12_worked 135 = .ok (.aload_n 0, 1) := by decide +kernel
theorem dX12_worked_136 : decode cX12_worked 136 = .ok (.getfield 59, 3) := by decide +kernel
theorem dX12_worked_139 : decode cX12_worked 139 = .ok (.iload 4, 2) := by decide +kernel
theorem dX12_worked_141 : decode cX12_worked 141 = .ok (.iconst 1, 1) := by decide +kernel
theorem dX12_worked_142 : decode cX12_worked 142 = .ok (.isub, 1) := by decide +kernel
theorem dX12_worked_143 : decode cX12_worked 143 = .ok (.iaload, 1) := by decide +kernel
theorem dX12_worked_144 : decode cX12_worked 144 = .ok (.ineg, 1) := by decide +kernel
theorem dX12_worked_145 : decode cX12_worked 145 = .ok (.iastore, 1) := by decide +kernel
theorem dX12_worked_146 : decode cX12_worked 146 = .ok (.goto 36, 3) := by decide +kernel
theorem dX12_worked_149 : decode cX12_worked 149 = .ok (.iinc 4 (-1), 3) := by decide +kernel
theorem dX12_worked_152 : decode cX12_worked 152 = .ok (.aload_n 0, 1) := by decide +kernel
theorem dX12_worked_153 : decode cX12_worked 153 = .ok (.getfield 59, 3) := by decide +kernel
theorem dX12_worked_156 : decode cX12_worked 156 = .ok (.iload 4, 2) := by decide +kernel
theorem dX12_worked_158 : decode cX12_worked 158 = .ok (.iconst 1, 1) := by decide +kernel
theorem dX12_worked_159 : decode cX12_worked 159 = .ok (.isub, 1) := by decide +kernel
theorem dX12_worked_160 : decode cX12_worked 160 = .ok (.iload 6, 2) := by decide +kernel
theorem dX12_worked_162 : decode cX12_worked 162 = .ok (.aload_n 0, 1) := by decide +kernel
theorem dX12_worked_163 : decode cX12_worked 163 = .ok (.getfield 59, 3) := by decide +kernel
theorem dX12_worked_166 : decode cX12_worked 166 = .ok (.iload 4, 2) := by decide +kernel
theorem dX12_worked_168 : decode cX12_worked 168 = .ok (.iconst 1, 1) := by decide +kernel
theorem dX12_worked_169 : decode cX12_worked 169 = .ok (.isub, 1) := by decide +kernel
theorem dX12_worked_170 : decode cX12_worked 170 = .ok (.iaload, 1) := by decide +kernel
theorem dX12_worked_171 : decode cX12_worked 171 = .ok (.aload_n 0, 1) := by decide +kernel
theorem dX12_worked_172 : decode cX12_worked 172 = .ok (.getfield 59, 3) := by decide +kernel
theorem dX12_worked_175 : decode cX12_worked 175 = .ok (.iload 4, 2) := by decide +kernel
theorem dX12_worked_177 : decode cX12_worked 177 = .ok (.iaload, 1) := by decide +kernel
theorem dX12_worked_178 : decode cX12_worked 178 = .ok (.invokestatic 222, 3) := by decide +kernel
theorem dX12_worked_181 : decode cX12_worked 181 = .ok (.iastore, 1) := by decide +kernel
theorem dX12_worked_182 : decode cX12_worked 182 = .ok (.iinc 5 1, 3) := by decide +kernel
theorem dX12_worked_185 : decode cX12_worked 185 = .ok (.goto (-173), 3) := by decide +kernel
theorem dX12_worked_188 : decode cX12_worked 188 = .ok (.aload_n 0, 1) := by decide +kernel
theorem dX12_worked_189 : decode cX12_worked 189 = .ok (.getfield 59, 3) := by decide +kernel
theorem dX12_worked_192 : decode cX12_worked 192 = .ok (.iconst 0, 1) := by decide +kernel
theorem dX12_worked_193 : decode cX12_worked 193 = .ok (.iaload, 1) := by decide +kernel
theorem dX12_worked_194 : decode cX12_worked 194 = .ok (.ireturn, 1) := by decide +kernel
theorem dX12_gives_0 : decode cX12_gives 0 = .ok (.iconst 0, 1) := by decide +kernel
theorem dX12_gives_1 : decode cX12_gives 1 = .ok (.istore_n 2, 1) := by decide +kernel
theorem dX12_gives_2 : decode cX12_gives 2 = .ok (.bipush 61, 2) := by decide +kernel
theorem dX12_gives_4 : decode cX12_gives 4 = .ok (.iload_n 1, 1) := by decide +kernel
theorem dX12_gives_5 : decode cX12_gives 5 = .ok (.imul, 1) := by decide +kernel
theorem dX12_gives_6 : decode cX12_gives 6 = .ok (.istore_n 3, 1) := by decide +kernel
theorem dX12_gives_7 : decode cX12_gives 7 = .ok (.iload_n 3, 1) := by decide +kernel
theorem dX12_gives_8 : decode cX12_gives 8 = .ok (.bipush 61, 2) := by decide +kernel
theorem dX12_gives_10 : decode cX12_gives 10 = .ok (.iload_n 1, 1) := by decide +kernel
theorem dX12_gives_11 : decode cX12_gives 11 = .ok (.imul, 1) := by decide +kernel
theorem dX12_gives_12 : decode cX12_gives 12 = .ok (.aload_n 0, 1) := by decide +kernel
theorem dX12_gives_13 : decode cX12_gives 13 = .ok (.getfield 46, 3) := by decide +kernel
theorem dX12_gives_16 : decode cX12_gives 16 = .ok (.iload_n 1, 1) := by decide +kernel
theorem dX12_gives_17 : decode cX12_gives 17 = .ok (.iaload, 1) := by decide +kernel
theorem dX12_gives_18 : decode cX12_gives 18 = .ok (.iadd, 1) := by decide +kernel
theorem dX12_gives_19 : decode cX12_gives 19 = .ok (.if_icmp .ge 59, 3) := by decide +kernel
theorem dX12_gives_22 : decode cX12_gives 22 = .ok (.aload_n 0, 1) := by decide +kernel
theorem dX12_gives_23 : decode cX12_gives 23 = .ok (.getfield 49, 3) := by decide +kernel
theorem dX12_gives_26 : decode cX12_gives 26 = .ok (.iload_n 3, 1) := by decide +kernel
theorem dX12_gives_27 : decode cX12_gives 27 = .ok (.saload, 1) := by decide +kernel
theorem dX12_gives_28 : decode cX12_gives 28 = .ok (.iload_n 2, 1) := by decide +kernel
theorem dX12_gives_29 : decode cX12_gives 29 = .ok (.if_icmp .eq 18, 3) := by decide +kernel
theorem dX12_gives_32 : decode cX12_gives 32 = .ok (.aload_n 0, 1) := by decide +kernel
theorem dX12_gives_33 : decode cX12_gives 33 = .ok (.iload_n 1, 1) := by decide +kernel
theorem dX12_gives_34 : decode cX12_gives 34 = .ok (.iload_n 2, 1) := by decide +kernel
theorem dX12_gives_35 : decode cX12_gives 35 = .ok (.aload_n 0, 1) := by decide +kernel
theorem dX12_gives_36 : decode cX12_gives 36 = .ok (.getfield 49, 3) := by decide +kernel
theorem dX12_gives_39 : decode cX12_gives 39 = .ok (.iload_n 3, 1) := by decide +kernel
theorem dX12_gives_40 : decode cX12_gives 40 = .ok (.saload, 1) := by decide +kernel
theorem dX12_gives_41 : decode cX12_gives 41 = .ok (.invokevirtual 225, 3) := by decide +kernel
theorem dX12_gives_44 : decode cX12_gives 44 = .ok (.ifCond .eq 21, 3) := by decide +kernel
theorem dX12_gives_47 : decode cX12_gives 47 = .ok (.aload_n 0, 1) := by decide +kernel
theorem dX12_gives_48 : decode cX12_gives 48 = .ok (.iload_n 1, 1) := by decide +kernel
theorem dX12_gives_49 : decode cX12_gives 49 = .ok (.aload_n 0, 1) := by decide +kernel
theorem dX12_gives_50 : decode cX12_gives 50 = .ok (.getfield 49, 3) := by decide +kernel
theorem dX12_gives_53 : decode cX12_gives 53 = .ok (.iload_n 3, 1) := by decide +kernel
theorem dX12_gives_54 : decode cX12_gives 54 = .ok (.saload, 1) := by decide +kernel
theorem dX12_gives_55 : decode cX12_gives 55 = .ok (.aload_n 0, 1) := by decide +kernel
theorem dX12_gives_56 : decode cX12_gives 56 = .ok (.getfield 53, 3) := by decide +kernel
theorem dX12_gives_59 : decode cX12_gives 59 = .ok (.iload_n 3, 1) := by decide +kernel
theorem dX12_gives_60 : decode cX12_gives 60 = .ok (.saload, 1) := by decide +kernel
theorem dX12_gives_61 : decode cX12_gives 61 = .ok (.invokevirtual 225, 3) := by decide +kernel
theorem dX12_gives_64 : decode cX12_gives 64 = .ok (.ireturn, 1) := by decide +kernel
theorem dX12_gives_65 : decode cX12_gives 65 = .ok (.aload_n 0, 1) := by decide +kernel
theorem dX12_gives_66 : decode cX12_gives 66 = .ok (.getfield 53, 3) := by decide +kernel
theorem dX12_gives_69 : decode cX12_gives 69 = .ok (.iload_n 3, 1) := by decide +kernel
theorem dX12_gives_70 : decode cX12_gives 70 = .ok (.saload, 1) := by decide +kernel
theorem dX12_gives_71 : decode cX12_gives 71 = .ok (.istore_n 2, 1) := by decide +kernel
theorem dX12_gives_72 : decode cX12_gives 72 = .ok (.iinc 3 1, 3) := by decide +kernel
theorem dX12_gives_75 : decode cX12_gives 75 = .ok (.goto (-68), 3) := by decide +kernel
theorem dX12_gives_78 : decode cX12_gives 78 = .ok (.iconst 0, 1) := by decide +kernel
theorem dX12_gives_79 : decode cX12_gives 79 = .ok (.ireturn, 1) := by decide +kernel
theorem dX12_law_0 : decode cX12_law 0 = .ok (.aload_n 0, 1) := by decide +kernel
theorem dX12_law_1 : decode cX12_law 1 = .ok (.iconst 0, 1) := by decide +kernel
theorem dX12_law_2 : decode cX12_law 2 = .ok (.invokevirtual 228, 3) := by decide +kernel
theorem dX12_law_5 : decode cX12_law 5 = .ok (.istore_n 1, 1) := by decide +kernel
theorem dX12_law_6 : decode cX12_law 6 = .ok (.iload_n 1, 1) := by decide +kernel
theorem dX12_law_7 : decode cX12_law 7 = .ok (.ifCond .lt 8, 3) := by decide +kernel
theorem dX12_law_10 : decode cX12_law 10 = .ok (.bipush (-100), 2) := by decide +kernel
theorem dX12_law_12 : decode cX12_law 12 = .ok (.iload_n 1, 1) := by decide +kernel
theorem dX12_law_13 : decode cX12_law 13 = .ok (.isub, 1) := by decide +kernel
theorem dX12_law_14 : decode cX12_law 14 = .ok (.ireturn, 1) := by decide +kernel
theorem dX12_law_15 : decode cX12_law 15 = .ok (.aload_n 0, 1) := by decide +kernel
theorem dX12_law_16 : decode cX12_law 16 = .ok (.iconst 1, 1) := by decide +kernel
theorem dX12_law_17 : decode cX12_law 17 = .ok (.putfield 231, 3) := by decide +kernel
theorem dX12_law_20 : decode cX12_law 20 = .ok (.iconst 1, 1) := by decide +kernel
theorem dX12_law_21 : decode cX12_law 21 = .ok (.ireturn, 1) := by decide +kernel
theorem dX12_beginThought_0 : decode cX12_beginThought 0 = .ok (.iconst 0, 1) := by decide +kernel
theorem dX12_beginThought_1 : decode cX12_beginThought 1 = .ok (.istore_n 1, 1) := by decide +kernel
theorem dX12_beginThought_2 : decode cX12_beginThought 2 = .ok (.iload_n 1, 1) := by decide +kernel
theorem dX12_beginThought_3 : decode cX12_beginThought 3 = .ok (.aload_n 0, 1) := by decide +kernel
theorem dX12_beginThought_4 : decode cX12_beginThought 4 = .ok (.getfield 122, 3) := by decide +kernel
theorem dX12_beginThought_7 : decode cX12_beginThought 7 = .ok (.if_icmp .ge 21, 3) := by decide +kernel
theorem dX12_beginThought_10 : decode cX12_beginThought 10 = .ok (.aload_n 0, 1) := by decide +kernel
theorem dX12_beginThought_11 : decode cX12_beginThought 11 = .ok (.getfield 62, 3) := by decide +kernel
theorem dX12_beginThought_14 : decode cX12_beginThought 14 = .ok (.iload_n 1, 1) := by decide +kernel
theorem dX12_beginThought_15 : decode cX12_beginThought 15 = .ok (.aload_n 0, 1) := by decide +kernel
theorem dX12_beginThought_16 : decode cX12_beginThought 16 = .ok (.getfield 65, 3) := by decide +kernel
theorem dX12_beginThought_19 : decode cX12_beginThought 19 = .ok (.iload_n 1, 1) := by decide +kernel
theorem dX12_beginThought_20 : decode cX12_beginThought 20 = .ok (.iaload, 1) := by decide +kernel
theorem dX12_beginThought_21 : decode cX12_beginThought 21 = .ok (.iastore, 1) := by decide +kernel
theorem dX12_beginThought_22 : decode cX12_beginThought 22 = .ok (.iinc 1 1, 3) := by decide +kernel
theorem dX12_beginThought_25 : decode cX12_beginThought 25 = .ok (.goto (-23), 3) := by decide +kernel
theorem dX12_beginThought_28 : decode cX12_beginThought 28 = .ok (.aload_n 0, 1) := by decide +kernel
theorem dX12_beginThought_29 : decode cX12_beginThought 29 = .ok (.aload_n 0, 1) := by decide +kernel
theorem dX12_beginThought_30 : decode cX12_beginThought 30 = .ok (.getfield 235, 3) := by decide +kernel
theorem dX12_beginThought_33 : decode cX12_beginThought 33 = .ok (.putfield 238, 3) := by decide +kernel
theorem dX12_beginThought_36 : decode cX12_beginThought 36 = .ok (.return_, 1) := by decide +kernel
theorem dX12_boundMany_0 : decode cX12_boundMany 0 = .ok (.iconst 0, 1) := by decide +kernel
theorem dX12_boundMany_1 : decode cX12_boundMany 1 = .ok (.istore_n 1, 1) := by decide +kernel
theorem dX12_boundMany_2 : decode cX12_boundMany 2 = .ok (.iconst 0, 1) := by decide +kernel
theorem dX12_boundMany_3 : decode cX12_boundMany 3 = .ok (.istore_n 2, 1) := by decide +kernel
theorem dX12_boundMany_4 : decode cX12_boundMany 4 = .ok (.iload_n 2, 1) := by decide +kernel
theorem dX12_boundMany_5 : decode cX12_boundMany 5 = .ok (.aload_n 0, 1) := by decide +kernel
theorem dX12_boundMany_6 : decode cX12_boundMany 6 = .ok (.getfield 122, 3) := by decide +kernel
theorem dX12_boundMany_9 : decode cX12_boundMany 9 = .ok (.if_icmp .ge 21, 3) := by decide +kernel
theorem dX12_boundMany_12 : decode cX12_boundMany 12 = .ok (.aload_n 0, 1) := by decide +kernel
theorem dX12_boundMany_13 : decode cX12_boundMany 13 = .ok (.getfield 62, 3) := by decide +kernel
theorem dX12_boundMany_16 : decode cX12_boundMany 16 = .ok (.iload_n 2, 1) := by decide +kernel
theorem dX12_boundMany_17 : decode cX12_boundMany 17 = .ok (.iaload, 1) := by decide +kernel
theorem dX12_boundMany_18 : decode cX12_boundMany 18 = .ok (.ifCond .lt 6, 3) := by decide +kernel
theorem dX12_boundMany_21 : decode cX12_boundMany 21 = .ok (.iinc 1 1, 3) := by decide +kernel
theorem dX12_boundMany_24 : decode cX12_boundMany 24 = .ok (.iinc 2 1, 3) := by decide +kernel
theorem dX12_boundMany_27 : decode cX12_boundMany 27 = .ok (.goto (-23), 3) := by decide +kernel
theorem dX12_boundMany_30 : decode cX12_boundMany 30 = .ok (.iload_n 1, 1) := by decide +kernel
theorem dX12_boundMany_31 : decode cX12_boundMany 31 = .ok (.ireturn, 1) := by decide +kernel
theorem dX12_speaker_0 : decode cX12_speaker 0 = .ok (.iconst 0, 1) := by decide +kernel
theorem dX12_speaker_1 : decode cX12_speaker 1 = .ok (.istore_n 2, 1) := by decide +kernel
theorem dX12_speaker_2 : decode cX12_speaker 2 = .ok (.iload_n 2, 1) := by decide +kernel
theorem dX12_speaker_3 : decode cX12_speaker 3 = .ok (.aload_n 0, 1) := by decide +kernel
theorem dX12_speaker_4 : decode cX12_speaker 4 = .ok (.getfield 122, 3) := by decide +kernel
theorem dX12_speaker_7 : decode cX12_speaker 7 = .ok (.if_icmp .ge 21, 3) := by decide +kernel
theorem dX12_speaker_10 : decode cX12_speaker 10 = .ok (.aload_n 0, 1) := by decide +kernel
theorem dX12_speaker_11 : decode cX12_speaker 11 = .ok (.getfield 62, 3) := by decide +kernel
theorem dX12_speaker_14 : decode cX12_speaker 14 = .ok (.iload_n 2, 1) := by decide +kernel
theorem dX12_speaker_15 : decode cX12_speaker 15 = .ok (.iaload, 1) := by decide +kernel
theorem dX12_speaker_16 : decode cX12_speaker 16 = .ok (.iload_n 1, 1) := by decide +kernel
theorem dX12_speaker_17 : decode cX12_speaker 17 = .ok (.if_icmp .ne 5, 3) := by decide +kernel
theorem dX12_speaker_20 : decode cX12_speaker 20 = .ok (.iload_n 2, 1) := by decide +kernel
theorem dX12_speaker_21 : decode cX12_speaker 21 = .ok (.ireturn, 1) := by decide +kernel
theorem dX12_speaker_22 : decode cX12_speaker 22 = .ok (.iinc 2 1, 3) := by decide +kernel
theorem dX12_speaker_25 : decode cX12_speaker 25 = .ok (.goto (-23), 3) := by decide +kernel
theorem dX12_speaker_28 : decode cX12_speaker 28 = .ok (.iload_n 1, 1) := by decide +kernel
theorem dX12_speaker_29 : decode cX12_speaker 29 = .ok (.ireturn, 1) := by decide +kernel
theorem dX12_lawBy_0 : decode cX12_lawBy 0 = .ok (.aload_n 0, 1) := by decide +kernel
theorem dX12_lawBy_1 : decode cX12_lawBy 1 = .ok (.getfield 18, 3) := by decide +kernel
theorem dX12_lawBy_4 : decode cX12_lawBy 4 = .ok (.iload_n 1, 1) := by decide +kernel
theorem dX12_lawBy_5 : decode cX12_lawBy 5 = .ok (.iaload, 1) := by decide +kernel
theorem dX12_lawBy_6 : decode cX12_lawBy 6 = .ok (.iload_n 2, 1) := by decide +kernel
theorem dX12_lawBy_7 : decode cX12_lawBy 7 = .ok (.if_icmp .ne 7, 3) := by decide +kernel
theorem dX12_lawBy_10 : decode cX12_lawBy 10 = .ok (.iconst 1, 1) := by decide +kernel
theorem dX12_lawBy_11 : decode cX12_lawBy 11 = .ok (.goto 4, 3) := by decide +kernel
theorem dX12_lawBy_14 : decode cX12_lawBy 14 = .ok (.iconst 0, 1) := by decide +kernel
theorem dX12_lawBy_15 : decode cX12_lawBy 15 = .ok (.istore 5, 2) := by decide +kernel
theorem dX12_lawBy_17 : decode cX12_lawBy 17 = .ok (.bipush 6, 2) := by decide +kernel
theorem dX12_lawBy_19 : decode cX12_lawBy 19 = .ok (.aload_n 0, 1) := by decide +kernel
theorem dX12_lawBy_20 : decode cX12_lawBy 20 = .ok (.getfield 9, 3) := by decide +kernel
theorem dX12_lawBy_23 : decode cX12_lawBy 23 = .ok (.iload_n 1, 1) := by decide +kernel
theorem dX12_lawBy_24 : decode cX12_lawBy 24 = .ok (.iaload, 1) := by decide +kernel
theorem dX12_lawBy_25 : decode cX12_lawBy 25 = .ok (.iadd, 1) := by decide +kernel
theorem dX12_lawBy_26 : decode cX12_lawBy 26 = .ok (.iload_n 3, 1) := by decide +kernel
theorem dX12_lawBy_27 : decode cX12_lawBy 27 = .ok (.isub, 1) := by decide +kernel
theorem dX12_lawBy_28 : decode cX12_lawBy 28 = .ok (.iload 5, 2) := by decide +kernel
theorem dX12_lawBy_30 : decode cX12_lawBy 30 = .ok (.iadd, 1) := by decide +kernel
theorem dX12_lawBy_31 : decode cX12_lawBy 31 = .ok (.istore 6, 2) := by decide +kernel
theorem dX12_lawBy_33 : decode cX12_lawBy 33 = .ok (.aload_n 0, 1) := by decide +kernel
theorem dX12_lawBy_34 : decode cX12_lawBy 34 = .ok (.getfield 231, 3) := by decide +kernel
theorem dX12_lawBy_37 : decode cX12_lawBy 37 = .ok (.ifCond .eq 65, 3) := by decide +kernel
theorem dX12_lawBy_40 : decode cX12_lawBy 40 = .ok (.aload_n 0, 1) := by decide +kernel
theorem dX12_lawBy_41 : decode cX12_lawBy 41 = .ok (.getfield 56, 3) := by decide +kernel
theorem dX12_lawBy_44 : decode cX12_lawBy 44 = .ok (.iconst 0, 1) := by decide +kernel
theorem dX12_lawBy_45 : decode cX12_lawBy 45 = .ok (.aload_n 0, 1) := by decide +kernel
theorem dX12_lawBy_46 : decode cX12_lawBy 46 = .ok (.getfield 9, 3) := by decide +kernel
theorem dX12_lawBy_49 : decode cX12_lawBy 49 = .ok (.iload_n 1, 1) := by decide +kernel
theorem dX12_lawBy_50 : decode cX12_lawBy 50 = .ok (.iaload, 1) := by decide +kernel
theorem dX12_lawBy_51 : decode cX12_lawBy 51 = .ok (.iastore, 1) := by decide +kernel
theorem dX12_lawBy_52 : decode cX12_lawBy 52 = .ok (.aload_n 0, 1) := by decide +kernel
theorem dX12_lawBy_53 : decode cX12_lawBy 53 = .ok (.getfield 56, 3) := by decide +kernel
theorem dX12_lawBy_56 : decode cX12_lawBy 56 = .ok (.iconst 1, 1) := by decide +kernel
theorem dX12_lawBy_57 : decode cX12_lawBy 57 = .ok (.iload_n 3, 1) := by decide +kernel
theorem dX12_lawBy_58 : decode cX12_lawBy 58 = .ok (.iastore, 1) := by decide +kernel
theorem dX12_lawBy_59 : decode cX12_lawBy 59 = .ok (.aload_n 0, 1) := by decide +kernel
theorem dX12_lawBy_60 : decode cX12_lawBy 60 = .ok (.getfield 56, 3) := by decide +kernel
theorem dX12_lawBy_63 : decode cX12_lawBy 63 = .ok (.iconst 2, 1) := by decide +kernel
theorem dX12_lawBy_64 : decode cX12_lawBy 64 = .ok (.iload 4, 2) := by decide +kernel
theorem dX12_lawBy_66 : decode cX12_lawBy 66 = .ok (.iastore, 1) := by decide +kernel
theorem dX12_lawBy_67 : decode cX12_lawBy 67 = .ok (.aload_n 0, 1) := by decide +kernel
theorem dX12_lawBy_68 : decode cX12_lawBy 68 = .ok (.getfield 56, 3) := by decide +kernel
theorem dX12_lawBy_71 : decode cX12_lawBy 71 = .ok (.iconst 3, 1) := by decide +kernel
theorem dX12_lawBy_72 : decode cX12_lawBy 72 = .ok (.iload 5, 2) := by decide +kernel
theorem dX12_lawBy_74 : decode cX12_lawBy 74 = .ok (.iastore, 1) := by decide +kernel
theorem dX12_lawBy_75 : decode cX12_lawBy 75 = .ok (.aload_n 0, 1) := by decide +kernel
theorem dX12_lawBy_76 : decode cX12_lawBy 76 = .ok (.getfield 56, 3) := by decide +kernel
theorem dX12_lawBy_79 : decode cX12_lawBy 79 = .ok (.iconst 4, 1) := by decide +kernel
theorem dX12_lawBy_80 : decode cX12_lawBy 80 = .ok (.aload_n 0, 1) := by decide +kernel
theorem dX12_lawBy_81 : decode cX12_lawBy 81 = .ok (.invokevirtual 241, 3) := by decide +kernel
theorem dX12_lawBy_84 : decode cX12_lawBy 84 = .ok (.iastore, 1) := by decide +kernel
theorem dX12_lawBy_85 : decode cX12_lawBy 85 = .ok (.aload_n 0, 1) := by decide +kernel
theorem dX12_lawBy_86 : decode cX12_lawBy 86 = .ok (.getfield 56, 3) := by decide +kernel
theorem dX12_lawBy_89 : decode cX12_lawBy 89 = .ok (.iconst 5, 1) := by decide +kernel
theorem dX12_lawBy_90 : decode cX12_lawBy 90 = .ok (.aload_n 0, 1) := by decide +kernel
theorem dX12_lawBy_91 : decode cX12_lawBy 91 = .ok (.getfield 238, 3) := by decide +kernel
theorem dX12_lawBy_94 : decode cX12_lawBy 94 = .ok (.iastore, 1) := by decide +kernel
theorem dX12_lawBy_95 : decode cX12_lawBy 95 = .ok (.aload_n 0, 1) := by decide +kernel
theorem dX12_lawBy_96 : decode cX12_lawBy 96 = .ok (.iconst 0, 1) := by decide +kernel
theorem dX12_lawBy_97 : decode cX12_lawBy 97 = .ok (.invokevirtual 244, 3) := by decide +kernel
theorem dX12_lawBy_100 : decode cX12_lawBy 100 = .ok (.istore 6, 2) := by decide +kernel
theorem dX12_lawBy_102 : decode cX12_lawBy 102 = .ok (.iload 6, 2) := by decide +kernel
theorem dX12_lawBy_104 : decode cX12_lawBy 104 = .ok (.ifCond .ge 7, 3) := by decide +kernel
theorem dX12_lawBy_107 : decode cX12_lawBy 107 = .ok (.iconst 0, 1) := by decide +kernel
theorem dX12_lawBy_108 : decode cX12_lawBy 108 = .ok (.goto 17, 3) := by decide +kernel
theorem dX12_lawBy_111 : decode cX12_lawBy 111 = .ok (.iload 6, 2) := by decide +kernel
theorem dX12_lawBy_113 : decode cX12_lawBy 113 = .ok (.bipush 12, 2) := by decide +kernel
theorem dX12_lawBy_115 : decode cX12_lawBy 115 = .ok (.if_icmp .le 8, 3) := by decide +kernel
theorem dX12_lawBy_118 : decode cX12_lawBy 118 = .ok (.bipush 12, 2) := by decide +kernel
theorem dX12_lawBy_120 : decode cX12_lawBy 120 = .ok (.goto 5, 3) := by decide +kernel
theorem dX12_lawBy_123 : decode cX12_lawBy 123 = .ok (.iload 6, 2) := by decide +kernel
theorem dX12_lawBy_125 : decode cX12_lawBy 125 = .ok (.ireturn, 1) := by decide +kernel
theorem dX12_winsBy_0 : decode cX12_winsBy 0 = .ok (.aload_n 0, 1) := by decide +kernel
theorem dX12_winsBy_1 : decode cX12_winsBy 1 = .ok (.iload_n 2, 1) := by decide +kernel
theorem dX12_winsBy_2 : decode cX12_winsBy 2 = .ok (.invokevirtual 247, 3) := by decide +kernel
theorem dX12_winsBy_5 : decode cX12_winsBy 5 = .ok (.istore_n 3, 1) := by decide +kernel
theorem dX12_winsBy_6 : decode cX12_winsBy 6 = .ok (.aload_n 0, 1) := by decide +kernel
theorem dX12_winsBy_7 : decode cX12_winsBy 7 = .ok (.iload_n 1, 1) := by decide +kernel
theorem dX12_winsBy_8 : decode cX12_winsBy 8 = .ok (.iload_n 2, 1) := by decide +kernel
theorem dX12_winsBy_9 : decode cX12_winsBy 9 = .ok (.aload_n 0, 1) := by decide +kernel
theorem dX12_winsBy_10 : decode cX12_winsBy 10 = .ok (.getfield 15, 3) := by decide +kernel
theorem dX12_winsBy_13 : decode cX12_winsBy 13 = .ok (.iload_n 3, 1) := by decide +kernel
theorem dX12_winsBy_14 : decode cX12_winsBy 14 = .ok (.iaload, 1) := by decide +kernel
theorem dX12_winsBy_15 : decode cX12_winsBy 15 = .ok (.iload_n 3, 1) := by decide +kernel
theorem dX12_winsBy_16 : decode cX12_winsBy 16 = .ok (.iload_n 2, 1) := by decide +kernel
theorem dX12_winsBy_17 : decode cX12_winsBy 17 = .ok (.if_icmp .ne 7, 3) := by decide +kernel
theorem dX12_winsBy_20 : decode cX12_winsBy 20 = .ok (.iconst 1, 1) := by decide +kernel
theorem dX12_winsBy_21 : decode cX12_winsBy 21 = .ok (.goto 4, 3) := by decide +kernel
theorem dX12_winsBy_24 : decode cX12_winsBy 24 = .ok (.iconst 0, 1) := by decide +kernel
theorem dX12_winsBy_25 : decode cX12_winsBy 25 = .ok (.invokevirtual 250, 3) := by decide +kernel
theorem dX12_winsBy_28 : decode cX12_winsBy 28 = .ok (.ireturn, 1) := by decide +kernel
theorem dX12_isLet_0 : decode cX12_isLet 0 = .ok (.aload_n 0, 1) := by decide +kernel
theorem dX12_isLet_1 : decode cX12_isLet 1 = .ok (.iload_n 1, 1) := by decide +kernel
theorem dX12_isLet_2 : decode cX12_isLet 2 = .ok (.invokevirtual 129, 3) := by decide +kernel
theorem dX12_isLet_5 : decode cX12_isLet 5 = .ok (.ifCond .eq 29, 3) := by decide +kernel
theorem dX12_isLet_8 : decode cX12_isLet 8 = .ok (.aload_n 0, 1) := by decide +kernel
theorem dX12_isLet_9 : decode cX12_isLet 9 = .ok (.iload_n 2, 1) := by decide +kernel
theorem dX12_isLet_10 : decode cX12_isLet 10 = .ok (.invokevirtual 129, 3) := by decide +kernel
theorem dX12_isLet_13 : decode cX12_isLet 13 = .ok (.ifCond .eq 21, 3) := by decide +kernel
theorem dX12_isLet_16 : decode cX12_isLet 16 = .ok (.iload_n 1, 1) := by decide +kernel
theorem dX12_isLet_17 : decode cX12_isLet 17 = .ok (.iload_n 2, 1) := by decide +kernel
theorem dX12_isLet_18 : decode cX12_isLet 18 = .ok (.if_icmp .eq 16, 3) := by decide +kernel
theorem dX12_isLet_21 : decode cX12_isLet 21 = .ok (.aload_n 0, 1) := by decide +kernel
theorem dX12_isLet_22 : decode cX12_isLet 22 = .ok (.getfield 62, 3) := by decide +kernel
theorem dX12_isLet_25 : decode cX12_isLet 25 = .ok (.iload_n 1, 1) := by decide +kernel
theorem dX12_isLet_26 : decode cX12_isLet 26 = .ok (.iaload, 1) := by decide +kernel
theorem dX12_isLet_27 : decode cX12_isLet 27 = .ok (.ifCond .ge 7, 3) := by decide +kernel
theorem dX12_isLet_30 : decode cX12_isLet 30 = .ok (.iconst 1, 1) := by decide +kernel
theorem dX12_isLet_31 : decode cX12_isLet 31 = .ok (.goto 4, 3) := by decide +kernel
theorem dX12_isLet_34 : decode cX12_isLet 34 = .ok (.iconst 0, 1) := by decide +kernel
theorem dX12_isLet_35 : decode cX12_isLet 35 = .ok (.ireturn, 1) := by decide +kernel
theorem dX12_goCase_0 : decode cX12_goCase 0 = .ok (.aload_n 0, 1) := by decide +kernel
theorem dX12_goCase_1 : decode cX12_goCase 1 = .ok (.iload_n 2, 1) := by decide +kernel
theorem dX12_goCase_2 : decode cX12_goCase 2 = .ok (.invokevirtual 247, 3) := by decide +kernel
theorem dX12_goCase_5 : decode cX12_goCase 5 = .ok (.istore 4, 2) := by decide +kernel
theorem dX12_goCase_7 : decode cX12_goCase 7 = .ok (.iload_n 3, 1) := by decide +kernel
theorem dX12_goCase_8 : decode cX12_goCase 8 = .ok (.iconst 1, 1) := by decide +kernel
theorem dX12_goCase_9 : decode cX12_goCase 9 = .ok (.if_icmp .ne 28, 3) := by decide +kernel
theorem dX12_goCase_12 : decode cX12_goCase 12 = .ok (.iload 4, 2) := by decide +kernel
theorem dX12_goCase_14 : decode cX12_goCase 14 = .ok (.iload_n 2, 1) := by decide +kernel
theorem dX12_goCase_15 : decode cX12_goCase 15 = .ok (.if_icmp .eq 12, 3) := by decide +kernel
theorem dX12_goCase_18 : decode cX12_goCase 18 = .ok (.aload_n 0, 1) := by decide +kernel
theorem dX12_goCase_19 : decode cX12_goCase 19 = .ok (.getfield 62, 3) := by decide +kernel
theorem dX12_goCase_22 : decode cX12_goCase 22 = .ok (.iload 4, 2) := by decide +kernel
theorem dX12_goCase_24 : decode cX12_goCase 24 = .ok (.iload 4, 2) := by decide +kernel
theorem dX12_goCase_26 : decode cX12_goCase 26 = .ok (.iastore, 1) := by decide +kernel
theorem dX12_goCase_27 : decode cX12_goCase 27 = .ok (.aload_n 0, 1) := by decide +kernel
theorem dX12_goCase_28 : decode cX12_goCase 28 = .ok (.getfield 62, 3) := by decide +kernel
theorem dX12_goCase_31 : decode cX12_goCase 31 = .ok (.iload_n 2, 1) := by decide +kernel
theorem dX12_goCase_32 : decode cX12_goCase 32 = .ok (.iconst (-1), 1) := by decide +kernel
theorem dX12_goCase_33 : decode cX12_goCase 33 = .ok (.iastore, 1) := by decide +kernel
theorem dX12_goCase_34 : decode cX12_goCase 34 = .ok (.goto 18, 3) := by decide +kernel
theorem dX12_goCase_37 : decode cX12_goCase 37 = .ok (.aload_n 0, 1) := by decide +kernel
theorem dX12_goCase_38 : decode cX12_goCase 38 = .ok (.getfield 62, 3) := by decide +kernel
theorem dX12_goCase_41 : decode cX12_goCase 41 = .ok (.iload 4, 2) := by decide +kernel
theorem dX12_goCase_43 : decode cX12_goCase 43 = .ok (.iconst (-1), 1) := by decide +kernel
theorem dX12_goCase_44 : decode cX12_goCase 44 = .ok (.iastore, 1) := by decide +kernel
theorem dX12_goCase_45 : decode cX12_goCase 45 = .ok (.aload_n 0, 1) := by decide +kernel
theorem dX12_goCase_46 : decode cX12_goCase 46 = .ok (.getfield 62, 3) := by decide +kernel
theorem dX12_goCase_49 : decode cX12_goCase 49 = .ok (.iload_n 1, 1) := by decide +kernel
theorem dX12_goCase_50 : decode cX12_goCase 50 = .ok (.iload_n 2, 1) := by decide +kernel
theorem dX12_goCase_51 : decode cX12_goCase 51 = .ok (.iastore, 1) := by decide +kernel
theorem dX12_goCase_52 : decode cX12_goCase 52 = .ok (.aload_n 0, 1) := by decide +kernel
theorem dX12_goCase_53 : decode cX12_goCase 53 = .ok (.dup, 1) := by decide +kernel
theorem dX12_goCase_54 : decode cX12_goCase 54 = .ok (.getfield 238, 3) := by decide +kernel
theorem dX12_goCase_57 : decode cX12_goCase 57 = .ok (.iconst 1, 1) := by decide +kernel
theorem dX12_goCase_58 : decode cX12_goCase 58 = .ok (.iadd, 1) := by decide +kernel
theorem dX12_goCase_59 : decode cX12_goCase 59 = .ok (.putfield 238, 3) := by decide +kernel
theorem dX12_goCase_62 : decode cX12_goCase 62 = .ok (.return_, 1) := by decide +kernel
theorem dX12_twelfths_0 : decode cX12_twelfths 0 = .ok (.iload_n 1, 1) := by decide +kernel
theorem dX12_twelfths_1 : decode cX12_twelfths 1 = .ok (.iconst 1, 1) := by decide +kernel
theorem dX12_twelfths_2 : decode cX12_twelfths 2 = .ok (.if_icmp .ne 7, 3) := by decide +kernel
theorem dX12_twelfths_5 : decode cX12_twelfths 5 = .ok (.iload_n 0, 1) := by decide +kernel
theorem dX12_twelfths_6 : decode cX12_twelfths 6 = .ok (.goto 7, 3) := by decide +kernel
theorem dX12_twelfths_9 : decode cX12_twelfths 9 = .ok (.bipush 12, 2) := by decide +kernel
theorem dX12_twelfths_11 : decode cX12_twelfths 11 = .ok (.iload_n 0, 1) := by decide +kernel
theorem dX12_twelfths_12 : decode cX12_twelfths 12 = .ok (.isub, 1) := by decide +kernel
theorem dX12_twelfths_13 : decode cX12_twelfths 13 = .ok (.ireturn, 1) := by decide +kernel
theorem dX12_wins_0 : decode cX12_wins 0 = .ok (.aload_n 0, 1) := by decide +kernel
theorem dX12_wins_1 : decode cX12_wins 1 = .ok (.iload_n 1, 1) := by decide +kernel
theorem dX12_wins_2 : decode cX12_wins 2 = .ok (.invokevirtual 254, 3) := by decide +kernel
theorem dX12_wins_5 : decode cX12_wins 5 = .ok (.ifCond .eq 12, 3) := by decide +kernel
theorem dX12_wins_8 : decode cX12_wins 8 = .ok (.iload_n 2, 1) := by decide +kernel
theorem dX12_wins_9 : decode cX12_wins 9 = .ok (.iconst 0, 1) := by decide +kernel
theorem dX12_wins_10 : decode cX12_wins 10 = .ok (.iconst 1, 1) := by decide +kernel
theorem dX12_wins_11 : decode cX12_wins 11 = .ok (.invokestatic 125, 3) := by decide +kernel
theorem dX12_wins_14 : decode cX12_wins 14 = .ok (.ifCond .ne 5, 3) := by decide +kernel
theorem dX12_wins_17 : decode cX12_wins 17 = .ok (.iconst (-1), 1) := by decide +kernel
theorem dX12_wins_18 : decode cX12_wins 18 = .ok (.ireturn, 1) := by decide +kernel
theorem dX12_wins_19 : decode cX12_wins 19 = .ok (.aload_n 0, 1) := by decide +kernel
theorem dX12_wins_20 : decode cX12_wins 20 = .ok (.invokevirtual 257, 3) := by decide +kernel
theorem dX12_wins_23 : decode cX12_wins 23 = .ok (.iload_n 2, 1) := by decide +kernel
theorem dX12_wins_24 : decode cX12_wins 24 = .ok (.ifCond .ne 18, 3) := by decide +kernel
theorem dX12_wins_27 : decode cX12_wins 27 = .ok (.aload_n 0, 1) := by decide +kernel
theorem dX12_wins_28 : decode cX12_wins 28 = .ok (.iload_n 1, 1) := by decide +kernel
theorem dX12_wins_29 : decode cX12_wins 29 = .ok (.bipush 10, 2) := by decide +kernel
theorem dX12_wins_31 : decode cX12_wins 31 = .ok (.idiv, 1) := by decide +kernel
theorem dX12_wins_32 : decode cX12_wins 32 = .ok (.iload_n 1, 1) := by decide +kernel
theorem dX12_wins_33 : decode cX12_wins 33 = .ok (.bipush 10, 2) := by decide +kernel
theorem dX12_wins_35 : decode cX12_wins 35 = .ok (.irem, 1) := by decide +kernel
theorem dX12_wins_36 : decode cX12_wins 36 = .ok (.invokevirtual 260, 3) := by decide +kernel
theorem dX12_wins_39 : decode cX12_wins 39 = .ok (.goto 11, 3) := by decide +kernel
theorem dX12_wins_42 : decode cX12_wins 42 = .ok (.aload_n 0, 1) := by decide +kernel
theorem dX12_wins_43 : decode cX12_wins 43 = .ok (.iload_n 1, 1) := by decide +kernel
theorem dX12_wins_44 : decode cX12_wins 44 = .ok (.bipush 10, 2) := by decide +kernel
theorem dX12_wins_46 : decode cX12_wins 46 = .ok (.irem, 1) := by decide +kernel
theorem dX12_wins_47 : decode cX12_wins 47 = .ok (.invokevirtual 247, 3) := by decide +kernel
theorem dX12_wins_50 : decode cX12_wins 50 = .ok (.ireturn, 1) := by decide +kernel
theorem dX12_rowFault_0 : decode cX12_rowFault 0 = .ok (.aload_n 0, 1) := by decide +kernel
theorem dX12_rowFault_1 : decode cX12_rowFault 1 = .ok (.getfield 105, 3) := by decide +kernel
theorem dX12_rowFault_4 : decode cX12_rowFault 4 = .ok (.iload_n 1, 1) := by decide +kernel
theorem dX12_rowFault_5 : decode cX12_rowFault 5 = .ok (.iaload, 1) := by decide +kernel
theorem dX12_rowFault_6 : decode cX12_rowFault 6 = .ok (.iconst (-1), 1) := by decide +kernel
theorem dX12_rowFault_7 : decode cX12_rowFault 7 = .ok (.if_icmp .ne 8, 3) := by decide +kernel
theorem dX12_rowFault_10 : decode cX12_rowFault 10 = .ok (.bipush (-11), 2) := by decide +kernel
theorem dX12_rowFault_12 : decode cX12_rowFault 12 = .ok (.goto 20, 3) := by decide +kernel
theorem dX12_rowFault_15 : decode cX12_rowFault 15 = .ok (.aload_n 0, 1) := by decide +kernel
theorem dX12_rowFault_16 : decode cX12_rowFault 16 = .ok (.getfield 105, 3) := by decide +kernel
theorem dX12_rowFault_19 : decode cX12_rowFault 19 = .ok (.iload_n 1, 1) := by decide +kernel
theorem dX12_rowFault_20 : decode cX12_rowFault 20 = .ok (.iaload, 1) := by decide +kernel
theorem dX12_rowFault_21 : decode cX12_rowFault 21 = .ok (.bipush (-2), 2) := by decide +kernel
theorem dX12_rowFault_23 : decode cX12_rowFault 23 = .ok (.if_icmp .ne 7, 3) := by decide +kernel
theorem dX12_rowFault_26 : decode cX12_rowFault 26 = .ok (.iconst 0, 1) := by decide +kernel
theorem dX12_rowFault_27 : decode cX12_rowFault 27 = .ok (.goto 5, 3) := by decide +kernel
theorem dX12_rowFault_30 : decode cX12_rowFault 30 = .ok (.bipush (-12), 2) := by decide +kernel
theorem dX12_rowFault_32 : decode cX12_rowFault 32 = .ok (.ireturn, 1) := by decide +kernel
theorem dX12_at_0 : decode cX12_at 0 = .ok (.aload_n 0, 1) := by decide +kernel
theorem dX12_at_1 : decode cX12_at 1 = .ok (.getfield 111, 3) := by decide +kernel
theorem dX12_at_4 : decode cX12_at 4 = .ok (.bipush 60, 2) := by decide +kernel
theorem dX12_at_6 : decode cX12_at 6 = .ok (.iload_n 1, 1) := by decide +kernel
theorem dX12_at_7 : decode cX12_at 7 = .ok (.imul, 1) := by decide +kernel
theorem dX12_at_8 : decode cX12_at 8 = .ok (.iload_n 2, 1) := by decide +kernel
theorem dX12_at_9 : decode cX12_at 9 = .ok (.iadd, 1) := by decide +kernel
theorem dX12_at_10 : decode cX12_at 10 = .ok (.laload, 1) := by decide +kernel
theorem dX12_at_11 : decode cX12_at 11 = .ok (.l2i, 1) := by decide +kernel
theorem dX12_at_12 : decode cX12_at 12 = .ok (.ireturn, 1) := by decide +kernel
theorem dX12_goCourse_0 : decode cX12_goCourse 0 = .ok (.aload_n 0, 1) := by decide +kernel
theorem dX12_goCourse_1 : decode cX12_goCourse 1 = .ok (.invokevirtual 257, 3) := by decide +kernel
theorem dX12_goCourse_4 : decode cX12_goCourse 4 = .ok (.aload_n 0, 1) := by decide +kernel
theorem dX12_goCourse_5 : decode cX12_goCourse 5 = .ok (.ldc_w 263, 3) := by decide +kernel
theorem dX12_goCourse_8 : decode cX12_goCourse 8 = .ok (.putfield 264, 3) := by decide +kernel
theorem dX12_goCourse_11 : decode cX12_goCourse 11 = .ok (.iconst 0, 1) := by decide +kernel
theorem dX12_goCourse_12 : decode cX12_goCourse 12 = .ok (.istore_n 2, 1) := by decide +kernel
theorem dX12_goCourse_13 : decode cX12_goCourse 13 = .ok (.iload_n 2, 1) := by decide +kernel
theorem dX12_goCourse_14 : decode cX12_goCourse 14 = .ok (.bipush 7, 2) := by decide +kernel
theorem dX12_goCourse_16 : decode cX12_goCourse 16 = .ok (.if_icmp .ge 16, 3) := by decide +kernel
theorem dX12_goCourse_19 : decode cX12_goCourse 19 = .ok (.aload_n 0, 1) := by decide +kernel
theorem dX12_goCourse_20 : decode cX12_goCourse 20 = .ok (.getfield 68, 3) := by decide +kernel
theorem dX12_goCourse_23 : decode cX12_goCourse 23 = .ok (.iload_n 2, 1) := by decide +kernel
theorem dX12_goCourse_24 : decode cX12_goCourse 24 = .ok (.iconst 0, 1) := by decide +kernel
theorem dX12_goCourse_25 : decode cX12_goCourse 25 = .ok (.iastore, 1) := by decide +kernel
theorem dX12_goCourse_26 : decode cX12_goCourse 26 = .ok (.iinc 2 1, 3) := by decide +kernel
theorem dX12_goCourse_29 : decode cX12_goCourse 29 = .ok (.goto (-16), 3) := by decide +kernel
theorem dX12_goCourse_32 : decode cX12_goCourse 32 = .ok (.iconst 0, 1) := by decide +kernel
theorem dX12_goCourse_33 : decode cX12_goCourse 33 = .ok (.istore_n 2, 1) := by decide +kernel
theorem dX12_goCourse_34 : decode cX12_goCourse 34 = .ok (.iload_n 2, 1) := by decide +kernel
theorem dX12_goCourse_35 : decode cX12_goCourse 35 = .ok (.bipush 20, 2) := by decide +kernel
theorem dX12_goCourse_37 : decode cX12_goCourse 37 = .ok (.if_icmp .ge 179, 3) := by decide +kernel
theorem dX12_goCourse_40 : decode cX12_goCourse 40 = .ok (.iconst 3, 1) := by decide +kernel
theorem dX12_goCourse_41 : decode cX12_goCourse 41 = .ok (.iload_n 2, 1) := by decide +kernel
theorem dX12_goCourse_42 : decode cX12_goCourse 42 = .ok (.imul, 1) := by decide +kernel
theorem dX12_goCourse_43 : decode cX12_goCourse 43 = .ok (.iconst 2, 1) := by decide +kernel
theorem dX12_goCourse_44 : decode cX12_goCourse 44 = .ok (.iadd, 1) := by decide +kernel
theorem dX12_goCourse_45 : decode cX12_goCourse 45 = .ok (.aload_n 0, 1) := by decide +kernel
theorem dX12_goCourse_46 : decode cX12_goCourse 46 = .ok (.getfield 108, 3) := by decide +kernel
theorem dX12_goCourse_49 : decode cX12_goCourse 49 = .ok (.iload_n 1, 1) := by decide +kernel
theorem dX12_goCourse_50 : decode cX12_goCourse 50 = .ok (.iaload, 1) := by decide +kernel
theorem dX12_goCourse_51 : decode cX12_goCourse 51 = .ok (.if_icmp .lt 5, 3) := by decide +kernel
theorem dX12_goCourse_54 : decode cX12_goCourse 54 = .ok (.iload_n 2, 1) := by decide +kernel
theorem dX12_goCourse_55 : decode cX12_goCourse 55 = .ok (.ireturn, 1) := by decide +kernel
theorem dX12_goCourse_56 : decode cX12_goCourse 56 = .ok (.aload_n 0, 1) := by decide +kernel
theorem dX12_goCourse_57 : decode cX12_goCourse 57 = .ok (.iload_n 1, 1) := by decide +kernel
theorem dX12_goCourse_58 : decode cX12_goCourse 58 = .ok (.iconst 3, 1) := by decide +kernel
theorem dX12_goCourse_59 : decode cX12_goCourse 59 = .ok (.iload_n 2, 1) := by decide +kernel
theorem dX12_goCourse_60 : decode cX12_goCourse 60 = .ok (.imul, 1) := by decide +kernel
theorem dX12_goCourse_61 : decode cX12_goCourse 61 = .ok (.invokevirtual 267, 3) := by decide +kernel
theorem dX12_goCourse_64 : decode cX12_goCourse 64 = .ok (.istore_n 3, 1) := by decide +kernel
theorem dX12_goCourse_65 : decode cX12_goCourse 65 = .ok (.aload_n 0, 1) := by decide +kernel
theorem dX12_goCourse_66 : decode cX12_goCourse 66 = .ok (.iload_n 1, 1) := by decide +kernel
theorem dX12_goCourse_67 : decode cX12_goCourse 67 = .ok (.iconst 3, 1) := by decide +kernel
theorem dX12_goCourse_68 : decode cX12_goCourse 68 = .ok (.iload_n 2, 1) := by decide +kernel
theorem dX12_goCourse_69 : decode cX12_goCourse 69 = .ok (.imul, 1) := by decide +kernel
theorem dX12_goCourse_70 : decode cX12_goCourse 70 = .ok (.iconst 1, 1) := by decide +kernel
theorem dX12_goCourse_71 : decode cX12_goCourse 71 = .ok (.iadd, 1) := by decide +kernel
theorem dX12_goCourse_72 : decode cX12_goCourse 72 = .ok (.invokevirtual 267, 3) := by decide +kernel
theorem dX12_goCourse_75 : decode cX12_goCourse 75 = .ok (.istore 4, 2) := by decide +kernel
theorem dX12_goCourse_77 : decode cX12_goCourse 77 = .ok (.aload_n 0, 1) := by decide +kernel
theorem dX12_goCourse_78 : decode cX12_goCourse 78 = .ok (.iload_n 1, 1) := by decide +kernel
theorem dX12_goCourse_79 : decode cX12_goCourse 79 = .ok (.iconst 3, 1) := by decide +kernel
theorem dX12_goCourse_80 : decode cX12_goCourse 80 = .ok (.iload_n 2, 1) := by decide +kernel
theorem dX12_goCourse_81 : decode cX12_goCourse 81 = .ok (.imul, 1) := by decide +kernel
theorem dX12_goCourse_82 : decode cX12_goCourse 82 = .ok (.iconst 2, 1) := by decide +kernel
theorem dX12_goCourse_83 : decode cX12_goCourse 83 = .ok (.iadd, 1) := by decide +kernel
theorem dX12_goCourse_84 : decode cX12_goCourse 84 = .ok (.invokevirtual 267, 3) := by decide +kernel
theorem dX12_goCourse_87 : decode cX12_goCourse 87 = .ok (.istore 5, 2) := by decide +kernel
theorem dX12_goCourse_89 : decode cX12_goCourse 89 = .ok (.aload_n 0, 1) := by decide +kernel
theorem dX12_goCourse_90 : decode cX12_goCourse 90 = .ok (.iload_n 3, 1) := by decide +kernel
theorem dX12_goCourse_91 : decode cX12_goCourse 91 = .ok (.iload 4, 2) := by decide +kernel
theorem dX12_goCourse_93 : decode cX12_goCourse 93 = .ok (.invokevirtual 270, 3) := by decide +kernel
theorem dX12_goCourse_96 : decode cX12_goCourse 96 = .ok (.ifCond .eq 13, 3) := by decide +kernel
theorem dX12_goCourse_99 : decode cX12_goCourse 99 = .ok (.iload 5, 2) := by decide +kernel
theorem dX12_goCourse_101 : decode cX12_goCourse 101 = .ok (.iconst 0, 1) := by decide +kernel
theorem dX12_goCourse_102 : decode cX12_goCourse 102 = .ok (.iconst 1, 1) := by decide +kernel
theorem dX12_goCourse_103 : decode cX12_goCourse 103 = .ok (.invokestatic 125, 3) := by decide +kernel
theorem dX12_goCourse_106 : decode cX12_goCourse 106 = .ok (.ifCond .ne 5, 3) := by decide +kernel
theorem dX12_goCourse_109 : decode cX12_goCourse 109 = .ok (.iload_n 2, 1) := by decide +kernel
theorem dX12_goCourse_110 : decode cX12_goCourse 110 = .ok (.ireturn, 1) := by decide +kernel
theorem dX12_goCourse_111 : decode cX12_goCourse 111 = .ok (.aload_n 0, 1) := by decide +kernel
theorem dX12_goCourse_112 : decode cX12_goCourse 112 = .ok (.aload_n 0, 1) := by decide +kernel
theorem dX12_goCourse_113 : decode cX12_goCourse 113 = .ok (.getfield 264, 3) := by decide +kernel
theorem dX12_goCourse_116 : decode cX12_goCourse 116 = .ok (.i2l, 1) := by decide +kernel
theorem dX12_goCourse_117 : decode cX12_goCourse 117 = .ok (.aload_n 0, 1) := by decide +kernel
theorem dX12_goCourse_118 : decode cX12_goCourse 118 = .ok (.iload_n 3, 1) := by decide +kernel
theorem dX12_goCourse_119 : decode cX12_goCourse 119 = .ok (.iload 4, 2) := by decide +kernel
theorem dX12_goCourse_121 : decode cX12_goCourse 121 = .ok (.invokevirtual 260, 3) := by decide +kernel
theorem dX12_goCourse_124 : decode cX12_goCourse 124 = .ok (.iload 5, 2) := by decide +kernel
theorem dX12_goCourse_126 : decode cX12_goCourse 126 = .ok (.invokestatic 273, 3) := by decide +kernel
theorem dX12_goCourse_129 : decode cX12_goCourse 129 = .ok (.i2l, 1) := by decide +kernel
theorem dX12_goCourse_130 : decode cX12_goCourse 130 = .ok (.lmul, 1) := by decide +kernel
theorem dX12_goCourse_131 : decode cX12_goCourse 131 = .ok (.ldc2_w 276, 3) := by decide +kernel
theorem dX12_goCourse_134 : decode cX12_goCourse 134 = .ok (.ldiv, 1) := by decide +kernel
theorem dX12_goCourse_135 : decode cX12_goCourse 135 = .ok (.l2i, 1) := by decide +kernel
theorem dX12_goCourse_136 : decode cX12_goCourse 136 = .ok (.putfield 264, 3) := by decide +kernel
theorem dX12_goCourse_139 : decode cX12_goCourse 139 = .ok (.iload 5, 2) := by decide +kernel
theorem dX12_goCourse_141 : decode cX12_goCourse 141 = .ok (.iconst 1, 1) := by decide +kernel
theorem dX12_goCourse_142 : decode cX12_goCourse 142 = .ok (.if_icmp .ne 8, 3) := by decide +kernel
theorem dX12_goCourse_145 : decode cX12_goCourse 145 = .ok (.iload 4, 2) := by decide +kernel
theorem dX12_goCourse_147 : decode cX12_goCourse 147 = .ok (.goto 4, 3) := by decide +kernel
theorem dX12_goCourse_150 : decode cX12_goCourse 150 = .ok (.iload_n 3, 1) := by decide +kernel
theorem dX12_goCourse_151 : decode cX12_goCourse 151 = .ok (.istore 6, 2) := by decide +kernel
theorem dX12_goCourse_153 : decode cX12_goCourse 153 = .ok (.iload 5, 2) := by decide +kernel
theorem dX12_goCourse_155 : decode cX12_goCourse 155 = .ok (.iconst 1, 1) := by decide +kernel
theorem dX12_goCourse_156 : decode cX12_goCourse 156 = .ok (.if_icmp .ne 7, 3) := by decide +kernel
theorem dX12_goCourse_159 : decode cX12_goCourse 159 = .ok (.iload_n 3, 1) := by decide +kernel
theorem dX12_goCourse_160 : decode cX12_goCourse 160 = .ok (.goto 5, 3) := by decide +kernel
theorem dX12_goCourse_163 : decode cX12_goCourse 163 = .ok (.iload 4, 2) := by decide +kernel
theorem dX12_goCourse_165 : decode cX12_goCourse 165 = .ok (.istore 7, 2) := by decide +kernel
theorem dX12_goCourse_167 : decode cX12_goCourse 167 = .ok (.aload_n 0, 1) := by decide +kernel
theorem dX12_goCourse_168 : decode cX12_goCourse 168 = .ok (.getfield 68, 3) := by decide +kernel
theorem dX12_goCourse_171 : decode cX12_goCourse 171 = .ok (.iload 6, 2) := by decide +kernel
theorem dX12_goCourse_173 : decode cX12_goCourse 173 = .ok (.dup2, 1) := by decide +kernel
theorem dX12_goCourse_174 : decode cX12_goCourse 174 = .ok (.iaload, 1) := by decide +kernel
theorem dX12_goCourse_175 : decode cX12_goCourse 175 = .ok (.aload_n 0, 1) := by decide +kernel
theorem dX12_goCourse_176 : decode cX12_goCourse 176 = .ok (.getfield 21, 3) := by decide +kernel
theorem dX12_goCourse_179 : decode cX12_goCourse 179 = .ok (.iload 6, 2) := by decide +kernel
theorem dX12_goCourse_181 : decode cX12_goCourse 181 = .ok (.iaload, 1) := by decide +kernel
theorem dX12_goCourse_182 : decode cX12_goCourse 182 = .ok (.isub, 1) := by decide +kernel
theorem dX12_goCourse_183 : decode cX12_goCourse 183 = .ok (.iastore, 1) := by decide +kernel
theorem dX12_goCourse_184 : decode cX12_goCourse 184 = .ok (.aload_n 0, 1) := by decide +kernel
theorem dX12_goCourse_185 : decode cX12_goCourse 185 = .ok (.getfield 68, 3) := by decide +kernel
theorem dX12_goCourse_188 : decode cX12_goCourse 188 = .ok (.iload 7, 2) := by decide +kernel
theorem dX12_goCourse_190 : decode cX12_goCourse 190 = .ok (.dup2, 1) := by decide +kernel
theorem dX12_goCourse_191 : decode cX12_goCourse 191 = .ok (.iaload, 1) := by decide +kernel
theorem dX12_goCourse_192 : decode cX12_goCourse 192 = .ok (.aload_n 0, 1) := by decide +kernel
theorem dX12_goCourse_193 : decode cX12_goCourse 193 = .ok (.getfield 21, 3) := by decide +kernel
theorem dX12_goCourse_196 : decode cX12_goCourse 196 = .ok (.iload 6, 2) := by decide +kernel
theorem dX12_goCourse_198 : decode cX12_goCourse 198 = .ok (.iaload, 1) := by decide +kernel
theorem dX12_goCourse_199 : decode cX12_goCourse 199 = .ok (.iadd, 1) := by decide +kernel
theorem dX12_goCourse_200 : decode cX12_goCourse 200 = .ok (.iastore, 1) := by decide +kernel
theorem dX12_goCourse_201 : decode cX12_goCourse 201 = .ok (.aload_n 0, 1) := by decide +kernel
theorem dX12_goCourse_202 : decode cX12_goCourse 202 = .ok (.iload_n 3, 1) := by decide +kernel
theorem dX12_goCourse_203 : decode cX12_goCourse 203 = .ok (.iload 4, 2) := by decide +kernel
theorem dX12_goCourse_205 : decode cX12_goCourse 205 = .ok (.iload 5, 2) := by decide +kernel
theorem dX12_goCourse_207 : decode cX12_goCourse 207 = .ok (.invokevirtual 278, 3) := by decide +kernel
theorem dX12_goCourse_210 : decode cX12_goCourse 210 = .ok (.iinc 2 1, 3) := by decide +kernel
theorem dX12_goCourse_213 : decode cX12_goCourse 213 = .ok (.goto (-179), 3) := by decide +kernel
theorem dX12_goCourse_216 : decode cX12_goCourse 216 = .ok (.bipush 20, 2) := by decide +kernel
theorem dX12_goCourse_218 : decode cX12_goCourse 218 = .ok (.ireturn, 1) := by decide +kernel
theorem dX12_course_0 : decode cX12_course 0 = .ok (.iload_n 1, 1) := by decide +kernel
theorem dX12_course_1 : decode cX12_course 1 = .ok (.invokestatic 137, 3) := by decide +kernel
theorem dX12_course_4 : decode cX12_course 4 = .ok (.ifCond .eq 25, 3) := by decide +kernel
theorem dX12_course_7 : decode cX12_course 7 = .ok (.iload_n 2, 1) := by decide +kernel
theorem dX12_course_8 : decode cX12_course 8 = .ok (.iconst (-1), 1) := by decide +kernel
theorem dX12_course_9 : decode cX12_course 9 = .ok (.aload_n 0, 1) := by decide +kernel
theorem dX12_course_10 : decode cX12_course 10 = .ok (.getfield 122, 3) := by decide +kernel
theorem dX12_course_13 : decode cX12_course 13 = .ok (.iconst 1, 1) := by decide +kernel
theorem dX12_course_14 : decode cX12_course 14 = .ok (.isub, 1) := by decide +kernel
theorem dX12_course_15 : decode cX12_course 15 = .ok (.invokestatic 125, 3) := by decide +kernel
theorem dX12_course_18 : decode cX12_course 18 = .ok (.ifCond .eq 11, 3) := by decide +kernel
theorem dX12_course_21 : decode cX12_course 21 = .ok (.aload_n 0, 1) := by decide +kernel
theorem dX12_course_22 : decode cX12_course 22 = .ok (.iload_n 1, 1) := by decide +kernel
theorem dX12_course_23 : decode cX12_course 23 = .ok (.invokevirtual 281, 3) := by decide +kernel
theorem dX12_course_26 : decode cX12_course 26 = .ok (.ifCond .ge 6, 3) := by decide +kernel
theorem dX12_course_29 : decode cX12_course 29 = .ok (.ldc 163, 2) := by decide +kernel
theorem dX12_course_31 : decode cX12_course 31 = .ok (.ireturn, 1) := by decide +kernel
theorem dX12_course_32 : decode cX12_course 32 = .ok (.aload_n 0, 1) := by decide +kernel
theorem dX12_course_33 : decode cX12_course 33 = .ok (.iload_n 1, 1) := by decide +kernel
theorem dX12_course_34 : decode cX12_course 34 = .ok (.invokevirtual 284, 3) := by decide +kernel
theorem dX12_course_37 : decode cX12_course 37 = .ok (.istore_n 3, 1) := by decide +kernel
theorem dX12_course_38 : decode cX12_course 38 = .ok (.iload_n 2, 1) := by decide +kernel
theorem dX12_course_39 : decode cX12_course 39 = .ok (.ifCond .ge 7, 3) := by decide +kernel
theorem dX12_course_42 : decode cX12_course 42 = .ok (.iload_n 3, 1) := by decide +kernel
theorem dX12_course_43 : decode cX12_course 43 = .ok (.goto 9, 3) := by decide +kernel
theorem dX12_course_46 : decode cX12_course 46 = .ok (.aload_n 0, 1) := by decide +kernel
theorem dX12_course_47 : decode cX12_course 47 = .ok (.getfield 62, 3) := by decide +kernel
theorem dX12_course_50 : decode cX12_course 50 = .ok (.iload_n 2, 1) := by decide +kernel
theorem dX12_course_51 : decode cX12_course 51 = .ok (.iaload, 1) := by decide +kernel
theorem dX12_course_52 : decode cX12_course 52 = .ok (.ireturn, 1) := by decide +kernel
theorem dX12_ends_0 : decode cX12_ends 0 = .ok (.iload_n 1, 1) := by decide +kernel
theorem dX12_ends_1 : decode cX12_ends 1 = .ok (.invokestatic 137, 3) := by decide +kernel
theorem dX12_ends_4 : decode cX12_ends 4 = .ok (.ifCond .eq 28, 3) := by decide +kernel
theorem dX12_ends_7 : decode cX12_ends 7 = .ok (.iload_n 3, 1) := by decide +kernel
theorem dX12_ends_8 : decode cX12_ends 8 = .ok (.iconst 0, 1) := by decide +kernel
theorem dX12_ends_9 : decode cX12_ends 9 = .ok (.iconst 1, 1) := by decide +kernel
theorem dX12_ends_10 : decode cX12_ends 10 = .ok (.invokestatic 125, 3) := by decide +kernel
theorem dX12_ends_13 : decode cX12_ends 13 = .ok (.ifCond .eq 19, 3) := by decide +kernel
theorem dX12_ends_16 : decode cX12_ends 16 = .ok (.aload_n 0, 1) := by decide +kernel
theorem dX12_ends_17 : decode cX12_ends 17 = .ok (.iload_n 2, 1) := by decide +kernel
theorem dX12_ends_18 : decode cX12_ends 18 = .ok (.invokevirtual 129, 3) := by decide +kernel
theorem dX12_ends_21 : decode cX12_ends 21 = .ok (.ifCond .eq 11, 3) := by decide +kernel
theorem dX12_ends_24 : decode cX12_ends 24 = .ok (.aload_n 0, 1) := by decide +kernel
theorem dX12_ends_25 : decode cX12_ends 25 = .ok (.iload_n 1, 1) := by decide +kernel
theorem dX12_ends_26 : decode cX12_ends 26 = .ok (.invokevirtual 281, 3) := by decide +kernel
theorem dX12_ends_29 : decode cX12_ends 29 = .ok (.ifCond .ge 6, 3) := by decide +kernel
theorem dX12_ends_32 : decode cX12_ends 32 = .ok (.ldc 163, 2) := by decide +kernel
theorem dX12_ends_34 : decode cX12_ends 34 = .ok (.ireturn, 1) := by decide +kernel
theorem dX12_ends_35 : decode cX12_ends 35 = .ok (.aload_n 0, 1) := by decide +kernel
theorem dX12_ends_36 : decode cX12_ends 36 = .ok (.iload_n 1, 1) := by decide +kernel
theorem dX12_ends_37 : decode cX12_ends 37 = .ok (.invokevirtual 284, 3) := by decide +kernel
theorem dX12_ends_40 : decode cX12_ends 40 = .ok (.pop, 1) := by decide +kernel
theorem dX12_ends_41 : decode cX12_ends 41 = .ok (.iload_n 3, 1) := by decide +kernel
theorem dX12_ends_42 : decode cX12_ends 42 = .ok (.ifCond .ne 10, 3) := by decide +kernel
theorem dX12_ends_45 : decode cX12_ends 45 = .ok (.aload_n 0, 1) := by decide +kernel
theorem dX12_ends_46 : decode cX12_ends 46 = .ok (.getfield 264, 3) := by decide +kernel
theorem dX12_ends_49 : decode cX12_ends 49 = .ok (.goto 9, 3) := by decide +kernel
theorem dX12_ends_52 : decode cX12_ends 52 = .ok (.aload_n 0, 1) := by decide +kernel
theorem dX12_ends_53 : decode cX12_ends 53 = .ok (.getfield 68, 3) := by decide +kernel
theorem dX12_ends_56 : decode cX12_ends 56 = .ok (.iload_n 2, 1) := by decide +kernel
theorem dX12_ends_57 : decode cX12_ends 57 = .ok (.iaload, 1) := by decide +kernel
theorem dX12_ends_58 : decode cX12_ends 58 = .ok (.ireturn, 1) := by decide +kernel
theorem dX12_best_0 : decode cX12_best 0 = .ok (.aload_n 0, 1) := by decide +kernel
theorem dX12_best_1 : decode cX12_best 1 = .ok (.iload_n 1, 1) := by decide +kernel
theorem dX12_best_2 : decode cX12_best 2 = .ok (.invokevirtual 129, 3) := by decide +kernel
theorem dX12_best_5 : decode cX12_best 5 = .ok (.ifCond .eq 12, 3) := by decide +kernel
theorem dX12_best_8 : decode cX12_best 8 = .ok (.iload_n 2, 1) := by decide +kernel
theorem dX12_best_9 : decode cX12_best 9 = .ok (.iconst 0, 1) := by decide +kernel
theorem dX12_best_10 : decode cX12_best 10 = .ok (.iconst 1, 1) := by decide +kernel
theorem dX12_best_11 : decode cX12_best 11 = .ok (.invokestatic 125, 3) := by decide +kernel
theorem dX12_best_14 : decode cX12_best 14 = .ok (.ifCond .ne 5, 3) := by decide +kernel
theorem dX12_best_17 : decode cX12_best 17 = .ok (.iconst (-1), 1) := by decide +kernel
theorem dX12_best_18 : decode cX12_best 18 = .ok (.ireturn, 1) := by decide +kernel
theorem dX12_best_19 : decode cX12_best 19 = .ok (.aload_n 0, 1) := by decide +kernel
theorem dX12_best_20 : decode cX12_best 20 = .ok (.invokevirtual 257, 3) := by decide +kernel
theorem dX12_best_23 : decode cX12_best 23 = .ok (.aload_n 0, 1) := by decide +kernel
theorem dX12_best_24 : decode cX12_best 24 = .ok (.getfield 62, 3) := by decide +kernel
theorem dX12_best_27 : decode cX12_best 27 = .ok (.iload_n 1, 1) := by decide +kernel
theorem dX12_best_28 : decode cX12_best 28 = .ok (.iaload, 1) := by decide +kernel
theorem dX12_best_29 : decode cX12_best 29 = .ok (.ifCond .lt 6, 3) := by decide +kernel
theorem dX12_best_32 : decode cX12_best 32 = .ok (.bipush (-2), 2) := by decide +kernel
theorem dX12_best_34 : decode cX12_best 34 = .ok (.ireturn, 1) := by decide +kernel
theorem dX12_best_35 : decode cX12_best 35 = .ok (.bipush (-2), 2) := by decide +kernel
theorem dX12_best_37 : decode cX12_best 37 = .ok (.istore_n 3, 1) := by decide +kernel
theorem dX12_best_38 : decode cX12_best 38 = .ok (.iconst (-1), 1) := by decide +kernel
theorem dX12_best_39 : decode cX12_best 39 = .ok (.istore 4, 2) := by decide +kernel
theorem dX12_best_41 : decode cX12_best 41 = .ok (.iconst 0, 1) := by decide +kernel
theorem dX12_best_42 : decode cX12_best 42 = .ok (.istore 5, 2) := by decide +kernel
theorem dX12_best_44 : decode cX12_best 44 = .ok (.iload 5, 2) := by decide +kernel
theorem dX12_best_46 : decode cX12_best 46 = .ok (.aload_n 0, 1) := by decide +kernel
theorem dX12_best_47 : decode cX12_best 47 = .ok (.getfield 122, 3) := by decide +kernel
theorem dX12_best_50 : decode cX12_best 50 = .ok (.if_icmp .ge 56, 3) := by decide +kernel
theorem dX12_best_53 : decode cX12_best 53 = .ok (.iload 5, 2) := by decide +kernel
theorem dX12_best_55 : decode cX12_best 55 = .ok (.iload_n 1, 1) := by decide +kernel
theorem dX12_best_56 : decode cX12_best 56 = .ok (.if_icmp .ne 6, 3) := by decide +kernel
theorem dX12_best_59 : decode cX12_best 59 = .ok (.goto 41, 3) := by decide +kernel
theorem dX12_best_62 : decode cX12_best 62 = .ok (.aload_n 0, 1) := by decide +kernel
theorem dX12_best_63 : decode cX12_best 63 = .ok (.iload_n 1, 1) := by decide +kernel
theorem dX12_best_64 : decode cX12_best 64 = .ok (.iload 5, 2) := by decide +kernel
theorem dX12_best_66 : decode cX12_best 66 = .ok (.invokevirtual 260, 3) := by decide +kernel
theorem dX12_best_69 : decode cX12_best 69 = .ok (.iload_n 2, 1) := by decide +kernel
theorem dX12_best_70 : decode cX12_best 70 = .ok (.ifCond .ne 7, 3) := by decide +kernel
theorem dX12_best_73 : decode cX12_best 73 = .ok (.iconst 1, 1) := by decide +kernel
theorem dX12_best_74 : decode cX12_best 74 = .ok (.goto 4, 3) := by decide +kernel
theorem dX12_best_77 : decode cX12_best 77 = .ok (.iconst 0, 1) := by decide +kernel
theorem dX12_best_78 : decode cX12_best 78 = .ok (.invokestatic 273, 3) := by decide +kernel
theorem dX12_best_81 : decode cX12_best 81 = .ok (.istore 6, 2) := by decide +kernel
theorem dX12_best_83 : decode cX12_best 83 = .ok (.iload 6, 2) := by decide +kernel
theorem dX12_best_85 : decode cX12_best 85 = .ok (.iload 4, 2) := by decide +kernel
theorem dX12_best_87 : decode cX12_best 87 = .ok (.if_icmp .gt 6, 3) := by decide +kernel
theorem dX12_best_90 : decode cX12_best 90 = .ok (.goto 10, 3) := by decide +kernel
theorem dX12_best_93 : decode cX12_best 93 = .ok (.iload 5, 2) := by decide +kernel
theorem dX12_best_95 : decode cX12_best 95 = .ok (.istore_n 3, 1) := by decide +kernel
theorem dX12_best_96 : decode cX12_best 96 = .ok (.iload 6, 2) := by decide +kernel
theorem dX12_best_98 : decode cX12_best 98 = .ok (.istore 4, 2) := by decide +kernel
theorem dX12_best_100 : decode cX12_best 100 = .ok (.iinc 5 1, 3) := by decide +kernel
theorem dX12_best_103 : decode cX12_best 103 = .ok (.goto (-59), 3) := by decide +kernel
theorem dX12_best_106 : decode cX12_best 106 = .ok (.iload_n 3, 1) := by decide +kernel
theorem dX12_best_107 : decode cX12_best 107 = .ok (.ireturn, 1) := by decide +kernel
theorem dX12_asPart_0 : decode cX12_asPart 0 = .ok (.lload_n 0, 1) := by decide +kernel
theorem dX12_asPart_1 : decode cX12_asPart 1 = .ok (.lstore 5, 2) := by decide +kernel
theorem dX12_asPart_3 : decode cX12_asPart 3 = .ok (.lload_n 2, 1) := by decide +kernel
theorem dX12_asPart_4 : decode cX12_asPart 4 = .ok (.lstore 7, 2) := by decide +kernel
theorem dX12_asPart_6 : decode cX12_asPart 6 = .ok (.lload 7, 2) := by decide +kernel
theorem dX12_asPart_8 : decode cX12_asPart 8 = .ok (.lconst 0, 1) := by decide +kernel
theorem dX12_asPart_9 : decode cX12_asPart 9 = .ok (.lcmp, 1) := by decide +kernel
theorem dX12_asPart_10 : decode cX12_asPart 10 = .ok (.ifCond .eq 21, 3) := by decide +kernel
theorem dX12_asPart_13 : decode cX12_asPart 13 = .ok (.lload 5, 2) := by decide +kernel
theorem dX12_asPart_15 : decode cX12_asPart 15 = .ok (.lload 7, 2) := by decide +kernel
theorem dX12_asPart_17 : decode cX12_asPart 17 = .ok (.lrem, 1) := by decide +kernel
theorem dX12_asPart_18 : decode cX12_asPart 18 = .ok (.lstore 9, 2) := by decide +kernel
theorem dX12_asPart_20 : decode cX12_asPart 20 = .ok (.lload 7, 2) := by decide +kernel
theorem dX12_asPart_22 : decode cX12_asPart 22 = .ok (.lstore 5, 2) := by decide +kernel
theorem dX12_asPart_24 : decode cX12_asPart 24 = .ok (.lload 9, 2) := by decide +kernel
theorem dX12_asPart_26 : decode cX12_asPart 26 = .ok (.lstore 7, 2) := by decide +kernel
theorem dX12_asPart_28 : decode cX12_asPart 28 = .ok (.goto (-22), 3) := by decide +kernel
theorem dX12_asPart_31 : decode cX12_asPart 31 = .ok (.iload 4, 2) := by decide +kernel
theorem dX12_asPart_33 : decode cX12_asPart 33 = .ok (.ifCond .ne 10, 3) := by decide +kernel
theorem dX12_asPart_36 : decode cX12_asPart 36 = .ok (.lload_n 0, 1) := by decide +kernel
theorem dX12_asPart_37 : decode cX12_asPart 37 = .ok (.lload 5, 2) := by decide +kernel
theorem dX12_asPart_39 : decode cX12_asPart 39 = .ok (.ldiv, 1) := by decide +kernel
theorem dX12_asPart_40 : decode cX12_asPart 40 = .ok (.goto 7, 3) := by decide +kernel
theorem dX12_asPart_43 : decode cX12_asPart 43 = .ok (.lload_n 2, 1) := by decide +kernel
theorem dX12_asPart_44 : decode cX12_asPart 44 = .ok (.lload 5, 2) := by decide +kernel
theorem dX12_asPart_46 : decode cX12_asPart 46 = .ok (.ldiv, 1) := by decide +kernel
theorem dX12_asPart_47 : decode cX12_asPart 47 = .ok (.lreturn, 1) := by decide +kernel
theorem dX12_beside_0 : decode cX12_beside 0 = .ok (.aload_n 0, 1) := by decide +kernel
theorem dX12_beside_1 : decode cX12_beside 1 = .ok (.iload_n 1, 1) := by decide +kernel
theorem dX12_beside_2 : decode cX12_beside 2 = .ok (.invokevirtual 254, 3) := by decide +kernel
theorem dX12_beside_5 : decode cX12_beside 5 = .ok (.ifCond .eq 12, 3) := by decide +kernel
theorem dX12_beside_8 : decode cX12_beside 8 = .ok (.iload_n 2, 1) := by decide +kernel
theorem dX12_beside_9 : decode cX12_beside 9 = .ok (.iconst 0, 1) := by decide +kernel
theorem dX12_beside_10 : decode cX12_beside 10 = .ok (.iconst 1, 1) := by decide +kernel
theorem dX12_beside_11 : decode cX12_beside 11 = .ok (.invokestatic 125, 3) := by decide +kernel
theorem dX12_beside_14 : decode cX12_beside 14 = .ok (.ifCond .ne 7, 3) := by decide +kernel
theorem dX12_beside_17 : decode cX12_beside 17 = .ok (.ldc2_w 287, 3) := by decide +kernel
theorem dX12_beside_20 : decode cX12_beside 20 = .ok (.lreturn, 1) := by decide +kernel
theorem dX12_beside_21 : decode cX12_beside 21 = .ok (.aload_n 0, 1) := by decide +kernel
theorem dX12_beside_22 : decode cX12_beside 22 = .ok (.invokevirtual 257, 3) := by decide +kernel
theorem dX12_beside_25 : decode cX12_beside 25 = .ok (.aload_n 0, 1) := by decide +kernel
theorem dX12_beside_26 : decode cX12_beside 26 = .ok (.iload_n 1, 1) := by decide +kernel
theorem dX12_beside_27 : decode cX12_beside 27 = .ok (.bipush 10, 2) := by decide +kernel
theorem dX12_beside_29 : decode cX12_beside 29 = .ok (.idiv, 1) := by decide +kernel
theorem dX12_beside_30 : decode cX12_beside 30 = .ok (.iload_n 1, 1) := by decide +kernel
theorem dX12_beside_31 : decode cX12_beside 31 = .ok (.bipush 10, 2) := by decide +kernel
theorem dX12_beside_33 : decode cX12_beside 33 = .ok (.irem, 1) := by decide +kernel
theorem dX12_beside_34 : decode cX12_beside 34 = .ok (.invokevirtual 270, 3) := by decide +kernel
theorem dX12_beside_37 : decode cX12_beside 37 = .ok (.ifCond .eq 21, 3) := by decide +kernel
theorem dX12_beside_40 : decode cX12_beside 40 = .ok (.bipush 12, 2) := by decide +kernel
theorem dX12_beside_42 : decode cX12_beside 42 = .ok (.aload_n 0, 1) := by decide +kernel
theorem dX12_beside_43 : decode cX12_beside 43 = .ok (.iload_n 1, 1) := by decide +kernel
theorem dX12_beside_44 : decode cX12_beside 44 = .ok (.bipush 10, 2) := by decide +kernel
theorem dX12_beside_46 : decode cX12_beside 46 = .ok (.idiv, 1) := by decide +kernel
theorem dX12_beside_47 : decode cX12_beside 47 = .ok (.iload_n 1, 1) := by decide +kernel
theorem dX12_beside_48 : decode cX12_beside 48 = .ok (.bipush 10, 2) := by decide +kernel
theorem dX12_beside_50 : decode cX12_beside 50 = .ok (.irem, 1) := by decide +kernel
theorem dX12_beside_51 : decode cX12_beside 51 = .ok (.invokevirtual 260, 3) := by decide +kernel
theorem dX12_beside_54 : decode cX12_beside 54 = .ok (.isub, 1) := by decide +kernel
theorem dX12_beside_55 : decode cX12_beside 55 = .ok (.goto 4, 3) := by decide +kernel
theorem dX12_beside_58 : decode cX12_beside 58 = .ok (.iconst 0, 1) := by decide +kernel
theorem dX12_beside_59 : decode cX12_beside 59 = .ok (.istore_n 3, 1) := by decide +kernel
theorem dX12_beside_60 : decode cX12_beside 60 = .ok (.iload_n 3, 1) := by decide +kernel
theorem dX12_beside_61 : decode cX12_beside 61 = .ok (.i2l, 1) := by decide +kernel
theorem dX12_beside_62 : decode cX12_beside 62 = .ok (.ldc2_w 276, 3) := by decide +kernel
theorem dX12_beside_65 : decode cX12_beside 65 = .ok (.iload_n 2, 1) := by decide +kernel
theorem dX12_beside_66 : decode cX12_beside 66 = .ok (.invokestatic 289, 3) := by decide +kernel
theorem dX12_beside_69 : decode cX12_beside 69 = .ok (.lreturn, 1) := by decide +kernel
theorem dX12_codeOf_0 : decode cX12_codeOf 0 = .ok (.iconst 0, 1) := by decide +kernel
theorem dX12_codeOf_1 : decode cX12_codeOf 1 = .ok (.istore_n 1, 1) := by decide +kernel
theorem dX12_codeOf_2 : decode cX12_codeOf 2 = .ok (.aload_n 0, 1) := by decide +kernel
theorem dX12_codeOf_3 : decode cX12_codeOf 3 = .ok (.getfield 122, 3) := by decide +kernel
theorem dX12_codeOf_6 : decode cX12_codeOf 6 = .ok (.iconst 1, 1) := by decide +kernel
theorem dX12_codeOf_7 : decode cX12_codeOf 7 = .ok (.isub, 1) := by decide +kernel
theorem dX12_codeOf_8 : decode cX12_codeOf 8 = .ok (.istore_n 2, 1) := by decide +kernel
theorem dX12_codeOf_9 : decode cX12_codeOf 9 = .ok (.iload_n 2, 1) := by decide +kernel
theorem dX12_codeOf_10 : decode cX12_codeOf 10 = .ok (.ifCond .lt 22, 3) := by decide +kernel
theorem dX12_codeOf_13 : decode cX12_codeOf 13 = .ok (.iconst 5, 1) := by decide +kernel
theorem dX12_codeOf_14 : decode cX12_codeOf 14 = .ok (.iload_n 1, 1) := by decide +kernel
theorem dX12_codeOf_15 : decode cX12_codeOf 15 = .ok (.imul, 1) := by decide +kernel
theorem dX12_codeOf_16 : decode cX12_codeOf 16 = .ok (.aload_n 0, 1) := by decide +kernel
theorem dX12_codeOf_17 : decode cX12_codeOf 17 = .ok (.getfield 62, 3) := by decide +kernel
theorem dX12_codeOf_20 : decode cX12_codeOf 20 = .ok (.iload_n 2, 1) := by decide +kernel
theorem dX12_codeOf_21 : decode cX12_codeOf 21 = .ok (.iaload, 1) := by decide +kernel
theorem dX12_codeOf_22 : decode cX12_codeOf 22 = .ok (.iadd, 1) := by decide +kernel
theorem dX12_codeOf_23 : decode cX12_codeOf 23 = .ok (.iconst 1, 1) := by decide +kernel
theorem dX12_codeOf_24 : decode cX12_codeOf 24 = .ok (.iadd, 1) := by decide +kernel
theorem dX12_codeOf_25 : decode cX12_codeOf 25 = .ok (.istore_n 1, 1) := by decide +kernel
theorem dX12_codeOf_26 : decode cX12_codeOf 26 = .ok (.iinc 2 (-1), 3) := by decide +kernel
theorem dX12_codeOf_29 : decode cX12_codeOf 29 = .ok (.goto (-20), 3) := by decide +kernel
theorem dX12_codeOf_32 : decode cX12_codeOf 32 = .ok (.iload_n 1, 1) := by decide +kernel
theorem dX12_codeOf_33 : decode cX12_codeOf 33 = .ok (.ireturn, 1) := by decide +kernel
theorem dX12_layCode_0 : decode cX12_layCode 0 = .ok (.iload_n 1, 1) := by decide +kernel
theorem dX12_layCode_1 : decode cX12_layCode 1 = .ok (.istore_n 2, 1) := by decide +kernel
theorem dX12_layCode_2 : decode cX12_layCode 2 = .ok (.iconst 0, 1) := by decide +kernel
theorem dX12_layCode_3 : decode cX12_layCode 3 = .ok (.istore_n 3, 1) := by decide +kernel
theorem dX12_layCode_4 : decode cX12_layCode 4 = .ok (.iload_n 3, 1) := by decide +kernel
theorem dX12_layCode_5 : decode cX12_layCode 5 = .ok (.aload_n 0, 1) := by decide +kernel
theorem dX12_layCode_6 : decode cX12_layCode 6 = .ok (.getfield 122, 3) := by decide +kernel
theorem dX12_layCode_9 : decode cX12_layCode 9 = .ok (.if_icmp .ge 24, 3) := by decide +kernel
theorem dX12_layCode_12 : decode cX12_layCode 12 = .ok (.aload_n 0, 1) := by decide +kernel
theorem dX12_layCode_13 : decode cX12_layCode 13 = .ok (.getfield 62, 3) := by decide +kernel
theorem dX12_layCode_16 : decode cX12_layCode 16 = .ok (.iload_n 3, 1) := by decide +kernel
theorem dX12_layCode_17 : decode cX12_layCode 17 = .ok (.iload_n 2, 1) := by decide +kernel
theorem dX12_layCode_18 : decode cX12_layCode 18 = .ok (.iconst 5, 1) := by decide +kernel
theorem dX12_layCode_19 : decode cX12_layCode 19 = .ok (.irem, 1) := by decide +kernel
theorem dX12_layCode_20 : decode cX12_layCode 20 = .ok (.iconst 1, 1) := by decide +kernel
theorem dX12_layCode_21 : decode cX12_layCode 21 = .ok (.isub, 1) := by decide +kernel
theorem dX12_layCode_22 : decode cX12_layCode 22 = .ok (.iastore, 1) := by decide +kernel
theorem dX12_layCode_23 : decode cX12_layCode 23 = .ok (.iload_n 2, 1) := by decide +kernel
theorem dX12_layCode_24 : decode cX12_layCode 24 = .ok (.iconst 5, 1) := by decide +kernel
theorem dX12_layCode_25 : decode cX12_layCode 25 = .ok (.idiv, 1) := by decide +kernel
theorem dX12_layCode_26 : decode cX12_layCode 26 = .ok (.istore_n 2, 1) := by decide +kernel
theorem dX12_layCode_27 : decode cX12_layCode 27 = .ok (.iinc 3 1, 3) := by decide +kernel
theorem dX12_layCode_30 : decode cX12_layCode 30 = .ok (.goto (-26), 3) := by decide +kernel
theorem dX12_layCode_33 : decode cX12_layCode 33 = .ok (.return_, 1) := by decide +kernel
theorem dX12_goOn_0 : decode cX12_goOn 0 = .ok (.aload_n 0, 1) := by decide +kernel
theorem dX12_goOn_1 : decode cX12_goOn 1 = .ok (.iload_n 1, 1) := by decide +kernel
theorem dX12_goOn_2 : decode cX12_goOn 2 = .ok (.invokevirtual 293, 3) := by decide +kernel
theorem dX12_goOn_5 : decode cX12_goOn 5 = .ok (.aload_n 0, 1) := by decide +kernel
theorem dX12_goOn_6 : decode cX12_goOn 6 = .ok (.aload_n 0, 1) := by decide +kernel
theorem dX12_goOn_7 : decode cX12_goOn 7 = .ok (.getfield 235, 3) := by decide +kernel
theorem dX12_goOn_10 : decode cX12_goOn 10 = .ok (.iload 4, 2) := by decide +kernel
theorem dX12_goOn_12 : decode cX12_goOn 12 = .ok (.iadd, 1) := by decide +kernel
theorem dX12_goOn_13 : decode cX12_goOn 13 = .ok (.putfield 238, 3) := by decide +kernel
theorem dX12_goOn_16 : decode cX12_goOn 16 = .ok (.aload_n 0, 1) := by decide +kernel
theorem dX12_goOn_17 : decode cX12_goOn 17 = .ok (.iload_n 2, 1) := by decide +kernel
theorem dX12_goOn_18 : decode cX12_goOn 18 = .ok (.iload_n 3, 1) := by decide +kernel
theorem dX12_goOn_19 : decode cX12_goOn 19 = .ok (.invokevirtual 270, 3) := by decide +kernel
theorem dX12_goOn_22 : decode cX12_goOn 22 = .ok (.ifCond .ne 4, 3) := by decide +kernel
theorem dX12_goOn_25 : decode cX12_goOn 25 = .ok (.return_, 1) := by decide +kernel
theorem dX12_goOn_26 : decode cX12_goOn 26 = .ok (.aload_n 0, 1) := by decide +kernel
theorem dX12_goOn_27 : decode cX12_goOn 27 = .ok (.iload_n 2, 1) := by decide +kernel
theorem dX12_goOn_28 : decode cX12_goOn 28 = .ok (.iload_n 3, 1) := by decide +kernel
theorem dX12_goOn_29 : decode cX12_goOn 29 = .ok (.invokevirtual 260, 3) := by decide +kernel
theorem dX12_goOn_32 : decode cX12_goOn 32 = .ok (.istore 5, 2) := by decide +kernel
theorem dX12_goOn_34 : decode cX12_goOn 34 = .ok (.iconst 0, 1) := by decide +kernel
theorem dX12_goOn_35 : decode cX12_goOn 35 = .ok (.istore 6, 2) := by decide +kernel
theorem dX12_goOn_37 : decode cX12_goOn 37 = .ok (.iload 6, 2) := by decide +kernel
theorem dX12_goOn_39 : decode cX12_goOn 39 = .ok (.iconst 2, 1) := by decide +kernel
theorem dX12_goOn_40 : decode cX12_goOn 40 = .ok (.if_icmp .ge 45, 3) := by decide +kernel
theorem dX12_goOn_43 : decode cX12_goOn 43 = .ok (.iload 5, 2) := by decide +kernel
theorem dX12_goOn_45 : decode cX12_goOn 45 = .ok (.iload 6, 2) := by decide +kernel
theorem dX12_goOn_47 : decode cX12_goOn 47 = .ok (.invokestatic 273, 3) := by decide +kernel
theorem dX12_goOn_50 : decode cX12_goOn 50 = .ok (.ifCond .ne 6, 3) := by decide +kernel
theorem dX12_goOn_53 : decode cX12_goOn 53 = .ok (.goto 26, 3) := by decide +kernel
theorem dX12_goOn_56 : decode cX12_goOn 56 = .ok (.aload_n 0, 1) := by decide +kernel
theorem dX12_goOn_57 : decode cX12_goOn 57 = .ok (.iload_n 1, 1) := by decide +kernel
theorem dX12_goOn_58 : decode cX12_goOn 58 = .ok (.invokevirtual 293, 3) := by decide +kernel
theorem dX12_goOn_61 : decode cX12_goOn 61 = .ok (.aload_n 0, 1) := by decide +kernel
theorem dX12_goOn_62 : decode cX12_goOn 62 = .ok (.iload_n 2, 1) := by decide +kernel
theorem dX12_goOn_63 : decode cX12_goOn 63 = .ok (.iload_n 3, 1) := by decide +kernel
theorem dX12_goOn_64 : decode cX12_goOn 64 = .ok (.iload 6, 2) := by decide +kernel
theorem dX12_goOn_66 : decode cX12_goOn 66 = .ok (.invokevirtual 278, 3) := by decide +kernel
theorem dX12_goOn_69 : decode cX12_goOn 69 = .ok (.aload_n 0, 1) := by decide +kernel
theorem dX12_goOn_70 : decode cX12_goOn 70 = .ok (.getfield 75, 3) := by decide +kernel
theorem dX12_goOn_73 : decode cX12_goOn 73 = .ok (.aload_n 0, 1) := by decide +kernel
theorem dX12_goOn_74 : decode cX12_goOn 74 = .ok (.invokevirtual 297, 3) := by decide +kernel
theorem dX12_goOn_77 : decode cX12_goOn 77 = .ok (.iconst 1, 1) := by decide +kernel
theorem dX12_goOn_78 : decode cX12_goOn 78 = .ok (.bastore, 1) := by decide +kernel
theorem dX12_goOn_79 : decode cX12_goOn 79 = .ok (.iinc 6 1, 3) := by decide +kernel
theorem dX12_goOn_82 : decode cX12_goOn 82 = .ok (.goto (-45), 3) := by decide +kernel
theorem dX12_goOn_85 : decode cX12_goOn 85 = .ok (.return_, 1) := by decide +kernel
theorem dX12_goAll_0 : decode cX12_goAll 0 = .ok (.iconst 0, 1) := by decide +kernel
theorem dX12_goAll_1 : decode cX12_goAll 1 = .ok (.istore_n 2, 1) := by decide +kernel
theorem dX12_goAll_2 : decode cX12_goAll 2 = .ok (.iload_n 2, 1) := by decide +kernel
theorem dX12_goAll_3 : decode cX12_goAll 3 = .ok (.sipush 625, 3) := by decide +kernel
theorem dX12_goAll_6 : decode cX12_goAll 6 = .ok (.if_icmp .ge 16, 3) := by decide +kernel
theorem dX12_goAll_9 : decode cX12_goAll 9 = .ok (.aload_n 0, 1) := by decide +kernel
theorem dX12_goAll_10 : decode cX12_goAll 10 = .ok (.getfield 75, 3) := by decide +kernel
theorem dX12_goAll_13 : decode cX12_goAll 13 = .ok (.iload_n 2, 1) := by decide +kernel
theorem dX12_goAll_14 : decode cX12_goAll 14 = .ok (.iconst 0, 1) := by decide +kernel
theorem dX12_goAll_15 : decode cX12_goAll 15 = .ok (.bastore, 1) := by decide +kernel
theorem dX12_goAll_16 : decode cX12_goAll 16 = .ok (.iinc 2 1, 3) := by decide +kernel
theorem dX12_goAll_19 : decode cX12_goAll 19 = .ok (.goto (-17), 3) := by decide +kernel
theorem dX12_goAll_22 : decode cX12_goAll 22 = .ok (.iconst 0, 1) := by decide +kernel
theorem dX12_goAll_23 : decode cX12_goAll 23 = .ok (.istore_n 2, 1) := by decide +kernel
theorem dX12_goAll_24 : decode cX12_goAll 24 = .ok (.iload_n 2, 1) := by decide +kernel
theorem dX12_goAll_25 : decode cX12_goAll 25 = .ok (.sipush 625, 3) := by decide +kernel
theorem dX12_goAll_28 : decode cX12_goAll 28 = .ok (.if_icmp .ge 64, 3) := by decide +kernel
theorem dX12_goAll_31 : decode cX12_goAll 31 = .ok (.aload_n 0, 1) := by decide +kernel
theorem dX12_goAll_32 : decode cX12_goAll 32 = .ok (.getfield 71, 3) := by decide +kernel
theorem dX12_goAll_35 : decode cX12_goAll 35 = .ok (.iload_n 2, 1) := by decide +kernel
theorem dX12_goAll_36 : decode cX12_goAll 36 = .ok (.baload, 1) := by decide +kernel
theorem dX12_goAll_37 : decode cX12_goAll 37 = .ok (.ifCond .ne 6, 3) := by decide +kernel
theorem dX12_goAll_40 : decode cX12_goAll 40 = .ok (.goto 46, 3) := by decide +kernel
theorem dX12_goAll_43 : decode cX12_goAll 43 = .ok (.iconst 0, 1) := by decide +kernel
theorem dX12_goAll_44 : decode cX12_goAll 44 = .ok (.istore_n 3, 1) := by decide +kernel
theorem dX12_goAll_45 : decode cX12_goAll 45 = .ok (.iload_n 3, 1) := by decide +kernel
theorem dX12_goAll_46 : decode cX12_goAll 46 = .ok (.aload_n 0, 1) := by decide +kernel
theorem dX12_goAll_47 : decode cX12_goAll 47 = .ok (.getfield 122, 3) := by decide +kernel
theorem dX12_goAll_50 : decode cX12_goAll 50 = .ok (.if_icmp .ge 36, 3) := by decide +kernel
theorem dX12_goAll_53 : decode cX12_goAll 53 = .ok (.iconst 0, 1) := by decide +kernel
theorem dX12_goAll_54 : decode cX12_goAll 54 = .ok (.istore 4, 2) := by decide +kernel
theorem dX12_goAll_56 : decode cX12_goAll 56 = .ok (.iload 4, 2) := by decide +kernel
theorem dX12_goAll_58 : decode cX12_goAll 58 = .ok (.aload_n 0, 1) := by decide +kernel
theorem dX12_goAll_59 : decode cX12_goAll 59 = .ok (.getfield 122, 3) := by decide +kernel
theorem dX12_goAll_62 : decode cX12_goAll 62 = .ok (.if_icmp .ge 18, 3) := by decide +kernel
theorem dX12_goAll_65 : decode cX12_goAll 65 = .ok (.aload_n 0, 1) := by decide +kernel
theorem dX12_goAll_66 : decode cX12_goAll 66 = .ok (.iload_n 2, 1) := by decide +kernel
theorem dX12_goAll_67 : decode cX12_goAll 67 = .ok (.iload_n 3, 1) := by decide +kernel
theorem dX12_goAll_68 : decode cX12_goAll 68 = .ok (.iload 4, 2) := by decide +kernel
theorem dX12_goAll_70 : decode cX12_goAll 70 = .ok (.iload_n 1, 1) := by decide +kernel
theorem dX12_goAll_71 : decode cX12_goAll 71 = .ok (.invokevirtual 300, 3) := by decide +kernel
theorem dX12_goAll_74 : decode cX12_goAll 74 = .ok (.iinc 4 1, 3) := by decide +kernel
theorem dX12_goAll_77 : decode cX12_goAll 77 = .ok (.goto (-21), 3) := by decide +kernel
theorem dX12_goAll_80 : decode cX12_goAll 80 = .ok (.iinc 3 1, 3) := by decide +kernel
theorem dX12_goAll_83 : decode cX12_goAll 83 = .ok (.goto (-38), 3) := by decide +kernel
theorem dX12_goAll_86 : decode cX12_goAll 86 = .ok (.iinc 2 1, 3) := by decide +kernel
theorem dX12_goAll_89 : decode cX12_goAll 89 = .ok (.goto (-65), 3) := by decide +kernel
theorem dX12_goAll_92 : decode cX12_goAll 92 = .ok (.iconst 0, 1) := by decide +kernel
theorem dX12_goAll_93 : decode cX12_goAll 93 = .ok (.istore_n 2, 1) := by decide +kernel
theorem dX12_goAll_94 : decode cX12_goAll 94 = .ok (.iload_n 2, 1) := by decide +kernel
theorem dX12_goAll_95 : decode cX12_goAll 95 = .ok (.sipush 625, 3) := by decide +kernel
theorem dX12_goAll_98 : decode cX12_goAll 98 = .ok (.if_icmp .ge 21, 3) := by decide +kernel
theorem dX12_goAll_101 : decode cX12_goAll 101 = .ok (.aload_n 0, 1) := by decide +kernel
theorem dX12_goAll_102 : decode cX12_goAll 102 = .ok (.getfield 71, 3) := by decide +kernel
theorem dX12_goAll_105 : decode cX12_goAll 105 = .ok (.iload_n 2, 1) := by decide +kernel
theorem dX12_goAll_106 : decode cX12_goAll 106 = .ok (.aload_n 0, 1) := by decide +kernel
theorem dX12_goAll_107 : decode cX12_goAll 107 = .ok (.getfield 75, 3) := by decide +kernel
theorem dX12_goAll_110 : decode cX12_goAll 110 = .ok (.iload_n 2, 1) := by decide +kernel
theorem dX12_goAll_111 : decode cX12_goAll 111 = .ok (.baload, 1) := by decide +kernel
theorem dX12_goAll_112 : decode cX12_goAll 112 = .ok (.bastore, 1) := by decide +kernel
theorem dX12_goAll_113 : decode cX12_goAll 113 = .ok (.iinc 2 1, 3) := by decide +kernel
theorem dX12_goAll_116 : decode cX12_goAll 116 = .ok (.goto (-22), 3) := by decide +kernel
theorem dX12_goAll_119 : decode cX12_goAll 119 = .ok (.return_, 1) := by decide +kernel
theorem dX12_beginAll_0 : decode cX12_beginAll 0 = .ok (.aload_n 0, 1) := by decide +kernel
theorem dX12_beginAll_1 : decode cX12_beginAll 1 = .ok (.invokevirtual 257, 3) := by decide +kernel
theorem dX12_beginAll_4 : decode cX12_beginAll 4 = .ok (.iconst 0, 1) := by decide +kernel
theorem dX12_beginAll_5 : decode cX12_beginAll 5 = .ok (.istore_n 1, 1) := by decide +kernel
theorem dX12_beginAll_6 : decode cX12_beginAll 6 = .ok (.iload_n 1, 1) := by decide +kernel
theorem dX12_beginAll_7 : decode cX12_beginAll 7 = .ok (.sipush 625, 3) := by decide +kernel
theorem dX12_beginAll_10 : decode cX12_beginAll 10 = .ok (.if_icmp .ge 16, 3) := by decide +kernel
theorem dX12_beginAll_13 : decode cX12_beginAll 13 = .ok (.aload_n 0, 1) := by decide +kernel
theorem dX12_beginAll_14 : decode cX12_beginAll 14 = .ok (.getfield 71, 3) := by decide +kernel
theorem dX12_beginAll_17 : decode cX12_beginAll 17 = .ok (.iload_n 1, 1) := by decide +kernel
theorem dX12_beginAll_18 : decode cX12_beginAll 18 = .ok (.iconst 0, 1) := by decide +kernel
theorem dX12_beginAll_19 : decode cX12_beginAll 19 = .ok (.bastore, 1) := by decide +kernel
theorem dX12_beginAll_20 : decode cX12_beginAll 20 = .ok (.iinc 1 1, 3) := by decide +kernel
theorem dX12_beginAll_23 : decode cX12_beginAll 23 = .ok (.goto (-17), 3) := by decide +kernel
theorem dX12_beginAll_26 : decode cX12_beginAll 26 = .ok (.aload_n 0, 1) := by decide +kernel
theorem dX12_beginAll_27 : decode cX12_beginAll 27 = .ok (.invokevirtual 297, 3) := by decide +kernel
theorem dX12_beginAll_30 : decode cX12_beginAll 30 = .ok (.istore_n 1, 1) := by decide +kernel
theorem dX12_beginAll_31 : decode cX12_beginAll 31 = .ok (.aload_n 0, 1) := by decide +kernel
theorem dX12_beginAll_32 : decode cX12_beginAll 32 = .ok (.getfield 71, 3) := by decide +kernel
theorem dX12_beginAll_35 : decode cX12_beginAll 35 = .ok (.iload_n 1, 1) := by decide +kernel
theorem dX12_beginAll_36 : decode cX12_beginAll 36 = .ok (.iconst 1, 1) := by decide +kernel
theorem dX12_beginAll_37 : decode cX12_beginAll 37 = .ok (.bastore, 1) := by decide +kernel
theorem dX12_beginAll_38 : decode cX12_beginAll 38 = .ok (.iload_n 1, 1) := by decide +kernel
theorem dX12_beginAll_39 : decode cX12_beginAll 39 = .ok (.ireturn, 1) := by decide +kernel
theorem dX12_isBoundIn_0 : decode cX12_isBoundIn 0 = .ok (.aload_n 0, 1) := by decide +kernel
theorem dX12_isBoundIn_1 : decode cX12_isBoundIn 1 = .ok (.iload_n 1, 1) := by decide +kernel
theorem dX12_isBoundIn_2 : decode cX12_isBoundIn 2 = .ok (.invokevirtual 293, 3) := by decide +kernel
theorem dX12_isBoundIn_5 : decode cX12_isBoundIn 5 = .ok (.aload_n 0, 1) := by decide +kernel
theorem dX12_isBoundIn_6 : decode cX12_isBoundIn 6 = .ok (.getfield 62, 3) := by decide +kernel
theorem dX12_isBoundIn_9 : decode cX12_isBoundIn 9 = .ok (.iload_n 2, 1) := by decide +kernel
theorem dX12_isBoundIn_10 : decode cX12_isBoundIn 10 = .ok (.iaload, 1) := by decide +kernel
theorem dX12_isBoundIn_11 : decode cX12_isBoundIn 11 = .ok (.iload_n 3, 1) := by decide +kernel
theorem dX12_isBoundIn_12 : decode cX12_isBoundIn 12 = .ok (.if_icmp .ne 7, 3) := by decide +kernel
theorem dX12_isBoundIn_15 : decode cX12_isBoundIn 15 = .ok (.iconst 1, 1) := by decide +kernel
theorem dX12_isBoundIn_16 : decode cX12_isBoundIn 16 = .ok (.goto 4, 3) := by decide +kernel
theorem dX12_isBoundIn_19 : decode cX12_isBoundIn 19 = .ok (.iconst 0, 1) := by decide +kernel
theorem dX12_isBoundIn_20 : decode cX12_isBoundIn 20 = .ok (.ireturn, 1) := by decide +kernel
theorem dX12_isReached_0 : decode cX12_isReached 0 = .ok (.iconst 0, 1) := by decide +kernel
theorem dX12_isReached_1 : decode cX12_isReached 1 = .ok (.istore_n 3, 1) := by decide +kernel
theorem dX12_isReached_2 : decode cX12_isReached 2 = .ok (.iload_n 3, 1) := by decide +kernel
theorem dX12_isReached_3 : decode cX12_isReached 3 = .ok (.sipush 625, 3) := by decide +kernel
theorem dX12_isReached_6 : decode cX12_isReached 6 = .ok (.if_icmp .ge 30, 3) := by decide +kernel
theorem dX12_isReached_9 : decode cX12_isReached 9 = .ok (.aload_n 0, 1) := by decide +kernel
theorem dX12_isReached_10 : decode cX12_isReached 10 = .ok (.getfield 71, 3) := by decide +kernel
theorem dX12_isReached_13 : decode cX12_isReached 13 = .ok (.iload_n 3, 1) := by decide +kernel
theorem dX12_isReached_14 : decode cX12_isReached 14 = .ok (.baload, 1) := by decide +kernel
theorem dX12_isReached_15 : decode cX12_isReached 15 = .ok (.ifCond .eq 15, 3) := by decide +kernel
theorem dX12_isReached_18 : decode cX12_isReached 18 = .ok (.aload_n 0, 1) := by decide +kernel
theorem dX12_isReached_19 : decode cX12_isReached 19 = .ok (.iload_n 3, 1) := by decide +kernel
theorem dX12_isReached_20 : decode cX12_isReached 20 = .ok (.iload_n 1, 1) := by decide +kernel
theorem dX12_isReached_21 : decode cX12_isReached 21 = .ok (.iload_n 2, 1) := by decide +kernel
theorem dX12_isReached_22 : decode cX12_isReached 22 = .ok (.invokevirtual 304, 3) := by decide +kernel
theorem dX12_isReached_25 : decode cX12_isReached 25 = .ok (.ifCond .eq 5, 3) := by decide +kernel
theorem dX12_isReached_28 : decode cX12_isReached 28 = .ok (.iconst 1, 1) := by decide +kernel
theorem dX12_isReached_29 : decode cX12_isReached 29 = .ok (.ireturn, 1) := by decide +kernel
theorem dX12_isReached_30 : decode cX12_isReached 30 = .ok (.iinc 3 1, 3) := by decide +kernel
theorem dX12_isReached_33 : decode cX12_isReached 33 = .ok (.goto (-31), 3) := by decide +kernel
theorem dX12_isReached_36 : decode cX12_isReached 36 = .ok (.iconst 0, 1) := by decide +kernel
theorem dX12_isReached_37 : decode cX12_isReached 37 = .ok (.ireturn, 1) := by decide +kernel
theorem dX12_tillBound_0 : decode cX12_tillBound 0 = .ok (.aload_n 0, 1) := by decide +kernel
theorem dX12_tillBound_1 : decode cX12_tillBound 1 = .ok (.iload_n 1, 1) := by decide +kernel
theorem dX12_tillBound_2 : decode cX12_tillBound 2 = .ok (.invokevirtual 254, 3) := by decide +kernel
theorem dX12_tillBound_5 : decode cX12_tillBound 5 = .ok (.ifCond .ne 5, 3) := by decide +kernel
theorem dX12_tillBound_8 : decode cX12_tillBound 8 = .ok (.iconst (-1), 1) := by decide +kernel
theorem dX12_tillBound_9 : decode cX12_tillBound 9 = .ok (.ireturn, 1) := by decide +kernel
theorem dX12_tillBound_10 : decode cX12_tillBound 10 = .ok (.aload_n 0, 1) := by decide +kernel
theorem dX12_tillBound_11 : decode cX12_tillBound 11 = .ok (.getfield 122, 3) := by decide +kernel
theorem dX12_tillBound_14 : decode cX12_tillBound 14 = .ok (.iconst 4, 1) := by decide +kernel
theorem dX12_tillBound_15 : decode cX12_tillBound 15 = .ok (.if_icmp .le 6, 3) := by decide +kernel
theorem dX12_tillBound_18 : decode cX12_tillBound 18 = .ok (.bipush (-5), 2) := by decide +kernel
theorem dX12_tillBound_20 : decode cX12_tillBound 20 = .ok (.ireturn, 1) := by decide +kernel
theorem dX12_tillBound_21 : decode cX12_tillBound 21 = .ok (.aload_n 0, 1) := by decide +kernel
theorem dX12_tillBound_22 : decode cX12_tillBound 22 = .ok (.invokevirtual 307, 3) := by decide +kernel
theorem dX12_tillBound_25 : decode cX12_tillBound 25 = .ok (.pop, 1) := by decide +kernel
theorem dX12_tillBound_26 : decode cX12_tillBound 26 = .ok (.iconst 0, 1) := by decide +kernel
theorem dX12_tillBound_27 : decode cX12_tillBound 27 = .ok (.istore_n 2, 1) := by decide +kernel
theorem dX12_tillBound_28 : decode cX12_tillBound 28 = .ok (.iload_n 2, 1) := by decide +kernel
theorem dX12_tillBound_29 : decode cX12_tillBound 29 = .ok (.bipush 8, 2) := by decide +kernel
theorem dX12_tillBound_31 : decode cX12_tillBound 31 = .ok (.if_icmp .gt 31, 3) := by decide +kernel
theorem dX12_tillBound_34 : decode cX12_tillBound 34 = .ok (.aload_n 0, 1) := by decide +kernel
theorem dX12_tillBound_35 : decode cX12_tillBound 35 = .ok (.iload_n 1, 1) := by decide +kernel
theorem dX12_tillBound_36 : decode cX12_tillBound 36 = .ok (.bipush 10, 2) := by decide +kernel
theorem dX12_tillBound_38 : decode cX12_tillBound 38 = .ok (.idiv, 1) := by decide +kernel
theorem dX12_tillBound_39 : decode cX12_tillBound 39 = .ok (.iload_n 1, 1) := by decide +kernel
theorem dX12_tillBound_40 : decode cX12_tillBound 40 = .ok (.bipush 10, 2) := by decide +kernel
theorem dX12_tillBound_42 : decode cX12_tillBound 42 = .ok (.irem, 1) := by decide +kernel
theorem dX12_tillBound_43 : decode cX12_tillBound 43 = .ok (.invokevirtual 310, 3) := by decide +kernel
theorem dX12_tillBound_46 : decode cX12_tillBound 46 = .ok (.ifCond .eq 5, 3) := by decide +kernel
theorem dX12_tillBound_49 : decode cX12_tillBound 49 = .ok (.iload_n 2, 1) := by decide +kernel
theorem dX12_tillBound_50 : decode cX12_tillBound 50 = .ok (.ireturn, 1) := by decide +kernel
theorem dX12_tillBound_51 : decode cX12_tillBound 51 = .ok (.aload_n 0, 1) := by decide +kernel
theorem dX12_tillBound_52 : decode cX12_tillBound 52 = .ok (.iload_n 2, 1) := by decide +kernel
theorem dX12_tillBound_53 : decode cX12_tillBound 53 = .ok (.invokevirtual 313, 3) := by decide +kernel
theorem dX12_tillBound_56 : decode cX12_tillBound 56 = .ok (.iinc 2 1, 3) := by decide +kernel
theorem dX12_tillBound_59 : decode cX12_tillBound 59 = .ok (.goto (-31), 3) := by decide +kernel
theorem dX12_tillBound_62 : decode cX12_tillBound 62 = .ok (.bipush (-2), 2) := by decide +kernel
theorem dX12_tillBound_64 : decode cX12_tillBound 64 = .ok (.ireturn, 1) := by decide +kernel
theorem dX12_round_0 : decode cX12_round 0 = .ok (.aload_n 0, 1) := by decide +kernel
theorem dX12_round_1 : decode cX12_round 1 = .ok (.getfield 122, 3) := by decide +kernel
theorem dX12_round_4 : decode cX12_round 4 = .ok (.iconst 4, 1) := by decide +kernel
theorem dX12_round_5 : decode cX12_round 5 = .ok (.if_icmp .le 6, 3) := by decide +kernel
theorem dX12_round_8 : decode cX12_round 8 = .ok (.bipush (-5), 2) := by decide +kernel
theorem dX12_round_10 : decode cX12_round 10 = .ok (.ireturn, 1) := by decide +kernel
theorem dX12_round_11 : decode cX12_round 11 = .ok (.aload_n 0, 1) := by decide +kernel
theorem dX12_round_12 : decode cX12_round 12 = .ok (.invokevirtual 307, 3) := by decide +kernel
theorem dX12_round_15 : decode cX12_round 15 = .ok (.istore_n 1, 1) := by decide +kernel
theorem dX12_round_16 : decode cX12_round 16 = .ok (.iconst 1, 1) := by decide +kernel
theorem dX12_round_17 : decode cX12_round 17 = .ok (.istore_n 2, 1) := by decide +kernel
theorem dX12_round_18 : decode cX12_round 18 = .ok (.iload_n 2, 1) := by decide +kernel
theorem dX12_round_19 : decode cX12_round 19 = .ok (.bipush 8, 2) := by decide +kernel
theorem dX12_round_21 : decode cX12_round 21 = .ok (.if_icmp .gt 27, 3) := by decide +kernel
theorem dX12_round_24 : decode cX12_round 24 = .ok (.aload_n 0, 1) := by decide +kernel
theorem dX12_round_25 : decode cX12_round 25 = .ok (.iload_n 2, 1) := by decide +kernel
theorem dX12_round_26 : decode cX12_round 26 = .ok (.iconst 1, 1) := by decide +kernel
theorem dX12_round_27 : decode cX12_round 27 = .ok (.isub, 1) := by decide +kernel
theorem dX12_round_28 : decode cX12_round 28 = .ok (.invokevirtual 313, 3) := by decide +kernel
theorem dX12_round_31 : decode cX12_round 31 = .ok (.aload_n 0, 1) := by decide +kernel
theorem dX12_round_32 : decode cX12_round 32 = .ok (.getfield 71, 3) := by decide +kernel
theorem dX12_round_35 : decode cX12_round 35 = .ok (.iload_n 1, 1) := by decide +kernel
theorem dX12_round_36 : decode cX12_round 36 = .ok (.baload, 1) := by decide +kernel
theorem dX12_round_37 : decode cX12_round 37 = .ok (.ifCond .eq 5, 3) := by decide +kernel
theorem dX12_round_40 : decode cX12_round 40 = .ok (.iload_n 2, 1) := by decide +kernel
theorem dX12_round_41 : decode cX12_round 41 = .ok (.ireturn, 1) := by decide +kernel
theorem dX12_round_42 : decode cX12_round 42 = .ok (.iinc 2 1, 3) := by decide +kernel
theorem dX12_round_45 : decode cX12_round 45 = .ok (.goto (-27), 3) := by decide +kernel
theorem dX12_round_48 : decode cX12_round 48 = .ok (.bipush (-2), 2) := by decide +kernel
theorem dX12_round_50 : decode cX12_round 50 = .ok (.ireturn, 1) := by decide +kernel
theorem dX12_sureFrom_0 : decode cX12_sureFrom 0 = .ok (.iload 4, 2) := by decide +kernel
theorem dX12_sureFrom_2 : decode cX12_sureFrom 2 = .ok (.bipush 6, 2) := by decide +kernel
theorem dX12_sureFrom_4 : decode cX12_sureFrom 4 = .ok (.if_icmp .ne 6, 3) := by decide +kernel
theorem dX12_sureFrom_7 : decode cX12_sureFrom 7 = .ok (.bipush 7, 2) := by decide +kernel
theorem dX12_sureFrom_9 : decode cX12_sureFrom 9 = .ok (.ireturn, 1) := by decide +kernel
theorem dX12_sureFrom_10 : decode cX12_sureFrom 10 = .ok (.bipush 7, 2) := by decide +kernel
theorem dX12_sureFrom_12 : decode cX12_sureFrom 12 = .ok (.istore 5, 2) := by decide +kernel
theorem dX12_sureFrom_14 : decode cX12_sureFrom 14 = .ok (.iconst 0, 1) := by decide +kernel
theorem dX12_sureFrom_15 : decode cX12_sureFrom 15 = .ok (.istore 6, 2) := by decide +kernel
theorem dX12_sureFrom_17 : decode cX12_sureFrom 17 = .ok (.iload 6, 2) := by decide +kernel
theorem dX12_sureFrom_19 : decode cX12_sureFrom 19 = .ok (.aload_n 0, 1) := by decide +kernel
theorem dX12_sureFrom_20 : decode cX12_sureFrom 20 = .ok (.getfield 122, 3) := by decide +kernel
theorem dX12_sureFrom_23 : decode cX12_sureFrom 23 = .ok (.if_icmp .ge 108, 3) := by decide +kernel
theorem dX12_sureFrom_26 : decode cX12_sureFrom 26 = .ok (.aload_n 0, 1) := by decide +kernel
theorem dX12_sureFrom_27 : decode cX12_sureFrom 27 = .ok (.iload_n 1, 1) := by decide +kernel
theorem dX12_sureFrom_28 : decode cX12_sureFrom 28 = .ok (.invokevirtual 293, 3) := by decide +kernel
theorem dX12_sureFrom_31 : decode cX12_sureFrom 31 = .ok (.aload_n 0, 1) := by decide +kernel
theorem dX12_sureFrom_32 : decode cX12_sureFrom 32 = .ok (.aload_n 0, 1) := by decide +kernel
theorem dX12_sureFrom_33 : decode cX12_sureFrom 33 = .ok (.getfield 235, 3) := by decide +kernel
theorem dX12_sureFrom_36 : decode cX12_sureFrom 36 = .ok (.iload 4, 2) := by decide +kernel
theorem dX12_sureFrom_38 : decode cX12_sureFrom 38 = .ok (.iadd, 1) := by decide +kernel
theorem dX12_sureFrom_39 : decode cX12_sureFrom 39 = .ok (.putfield 238, 3) := by decide +kernel
theorem dX12_sureFrom_42 : decode cX12_sureFrom 42 = .ok (.aload_n 0, 1) := by decide +kernel
theorem dX12_sureFrom_43 : decode cX12_sureFrom 43 = .ok (.iload_n 2, 1) := by decide +kernel
theorem dX12_sureFrom_44 : decode cX12_sureFrom 44 = .ok (.iload 6, 2) := by decide +kernel
theorem dX12_sureFrom_46 : decode cX12_sureFrom 46 = .ok (.invokevirtual 270, 3) := by decide +kernel
theorem dX12_sureFrom_49 : decode cX12_sureFrom 49 = .ok (.ifCond .ne 6, 3) := by decide +kernel
theorem dX12_sureFrom_52 : decode cX12_sureFrom 52 = .ok (.goto 73, 3) := by decide +kernel
theorem dX12_sureFrom_55 : decode cX12_sureFrom 55 = .ok (.aload_n 0, 1) := by decide +kernel
theorem dX12_sureFrom_56 : decode cX12_sureFrom 56 = .ok (.iload_n 2, 1) := by decide +kernel
theorem dX12_sureFrom_57 : decode cX12_sureFrom 57 = .ok (.iload 6, 2) := by decide +kernel
theorem dX12_sureFrom_59 : decode cX12_sureFrom 59 = .ok (.invokevirtual 260, 3) := by decide +kernel
theorem dX12_sureFrom_62 : decode cX12_sureFrom 62 = .ok (.istore 7, 2) := by decide +kernel
theorem dX12_sureFrom_64 : decode cX12_sureFrom 64 = .ok (.iload 7, 2) := by decide +kernel
theorem dX12_sureFrom_66 : decode cX12_sureFrom 66 = .ok (.bipush 12, 2) := by decide +kernel
theorem dX12_sureFrom_68 : decode cX12_sureFrom 68 = .ok (.if_icmp .ge 12, 3) := by decide +kernel
theorem dX12_sureFrom_71 : decode cX12_sureFrom 71 = .ok (.iload 6, 2) := by decide +kernel
theorem dX12_sureFrom_73 : decode cX12_sureFrom 73 = .ok (.iload_n 3, 1) := by decide +kernel
theorem dX12_sureFrom_74 : decode cX12_sureFrom 74 = .ok (.if_icmp .eq 6, 3) := by decide +kernel
theorem dX12_sureFrom_77 : decode cX12_sureFrom 77 = .ok (.goto 48, 3) := by decide +kernel
theorem dX12_sureFrom_80 : decode cX12_sureFrom 80 = .ok (.iconst 1, 1) := by decide +kernel
theorem dX12_sureFrom_81 : decode cX12_sureFrom 81 = .ok (.istore 8, 2) := by decide +kernel
theorem dX12_sureFrom_83 : decode cX12_sureFrom 83 = .ok (.iload 7, 2) := by decide +kernel
theorem dX12_sureFrom_85 : decode cX12_sureFrom 85 = .ok (.ifCond .le 29, 3) := by decide +kernel
theorem dX12_sureFrom_88 : decode cX12_sureFrom 88 = .ok (.aload_n 0, 1) := by decide +kernel
theorem dX12_sureFrom_89 : decode cX12_sureFrom 89 = .ok (.iload_n 2, 1) := by decide +kernel
theorem dX12_sureFrom_90 : decode cX12_sureFrom 90 = .ok (.iload 6, 2) := by decide +kernel
theorem dX12_sureFrom_92 : decode cX12_sureFrom 92 = .ok (.iconst 1, 1) := by decide +kernel
theorem dX12_sureFrom_93 : decode cX12_sureFrom 93 = .ok (.invokevirtual 278, 3) := by decide +kernel
theorem dX12_sureFrom_96 : decode cX12_sureFrom 96 = .ok (.iconst 1, 1) := by decide +kernel
theorem dX12_sureFrom_97 : decode cX12_sureFrom 97 = .ok (.aload_n 0, 1) := by decide +kernel
theorem dX12_sureFrom_98 : decode cX12_sureFrom 98 = .ok (.aload_n 0, 1) := by decide +kernel
theorem dX12_sureFrom_99 : decode cX12_sureFrom 99 = .ok (.invokevirtual 297, 3) := by decide +kernel
theorem dX12_sureFrom_102 : decode cX12_sureFrom 102 = .ok (.iload_n 2, 1) := by decide +kernel
theorem dX12_sureFrom_103 : decode cX12_sureFrom 103 = .ok (.iload_n 3, 1) := by decide +kernel
theorem dX12_sureFrom_104 : decode cX12_sureFrom 104 = .ok (.iload 4, 2) := by decide +kernel
theorem dX12_sureFrom_106 : decode cX12_sureFrom 106 = .ok (.iconst 1, 1) := by decide +kernel
theorem dX12_sureFrom_107 : decode cX12_sureFrom 107 = .ok (.iadd, 1) := by decide +kernel
theorem dX12_sureFrom_108 : decode cX12_sureFrom 108 = .ok (.invokevirtual 316, 3) := by decide +kernel
theorem dX12_sureFrom_111 : decode cX12_sureFrom 111 = .ok (.iadd, 1) := by decide +kernel
theorem dX12_sureFrom_112 : decode cX12_sureFrom 112 = .ok (.istore 8, 2) := by decide +kernel
theorem dX12_sureFrom_114 : decode cX12_sureFrom 114 = .ok (.iload 8, 2) := by decide +kernel
theorem dX12_sureFrom_116 : decode cX12_sureFrom 116 = .ok (.iload 5, 2) := by decide +kernel
theorem dX12_sureFrom_118 : decode cX12_sureFrom 118 = .ok (.if_icmp .ge 7, 3) := by decide +kernel
theorem dX12_sureFrom_121 : decode cX12_sureFrom 121 = .ok (.iload 8, 2) := by decide +kernel
theorem dX12_sureFrom_123 : decode cX12_sureFrom 123 = .ok (.istore 5, 2) := by decide +kernel
theorem dX12_sureFrom_125 : decode cX12_sureFrom 125 = .ok (.iinc 6 1, 3) := by decide +kernel
theorem dX12_sureFrom_128 : decode cX12_sureFrom 128 = .ok (.goto (-111), 3) := by decide +kernel
theorem dX12_sureFrom_131 : decode cX12_sureFrom 131 = .ok (.iload 5, 2) := by decide +kernel
theorem dX12_sureFrom_133 : decode cX12_sureFrom 133 = .ok (.ireturn, 1) := by decide +kernel
theorem dX12_sure_0 : decode cX12_sure 0 = .ok (.aload_n 0, 1) := by decide +kernel
theorem dX12_sure_1 : decode cX12_sure 1 = .ok (.iload_n 1, 1) := by decide +kernel
theorem dX12_sure_2 : decode cX12_sure 2 = .ok (.invokevirtual 254, 3) := by decide +kernel
theorem dX12_sure_5 : decode cX12_sure 5 = .ok (.ifCond .ne 5, 3) := by decide +kernel
theorem dX12_sure_8 : decode cX12_sure 8 = .ok (.iconst (-1), 1) := by decide +kernel
theorem dX12_sure_9 : decode cX12_sure 9 = .ok (.ireturn, 1) := by decide +kernel
theorem dX12_sure_10 : decode cX12_sure 10 = .ok (.aload_n 0, 1) := by decide +kernel
theorem dX12_sure_11 : decode cX12_sure 11 = .ok (.getfield 122, 3) := by decide +kernel
theorem dX12_sure_14 : decode cX12_sure 14 = .ok (.iconst 4, 1) := by decide +kernel
theorem dX12_sure_15 : decode cX12_sure 15 = .ok (.if_icmp .gt 15, 3) := by decide +kernel
theorem dX12_sure_18 : decode cX12_sure 18 = .ok (.aload_n 0, 1) := by decide +kernel
theorem dX12_sure_19 : decode cX12_sure 19 = .ok (.getfield 65, 3) := by decide +kernel
theorem dX12_sure_22 : decode cX12_sure 22 = .ok (.iload_n 1, 1) := by decide +kernel
theorem dX12_sure_23 : decode cX12_sure 23 = .ok (.bipush 10, 2) := by decide +kernel
theorem dX12_sure_25 : decode cX12_sure 25 = .ok (.idiv, 1) := by decide +kernel
theorem dX12_sure_26 : decode cX12_sure 26 = .ok (.iaload, 1) := by decide +kernel
theorem dX12_sure_27 : decode cX12_sure 27 = .ok (.ifCond .lt 6, 3) := by decide +kernel
theorem dX12_sure_30 : decode cX12_sure 30 = .ok (.bipush (-5), 2) := by decide +kernel
theorem dX12_sure_32 : decode cX12_sure 32 = .ok (.ireturn, 1) := by decide +kernel
theorem dX12_sure_33 : decode cX12_sure 33 = .ok (.aload_n 0, 1) := by decide +kernel
theorem dX12_sure_34 : decode cX12_sure 34 = .ok (.aload_n 0, 1) := by decide +kernel
theorem dX12_sure_35 : decode cX12_sure 35 = .ok (.invokevirtual 307, 3) := by decide +kernel
theorem dX12_sure_38 : decode cX12_sure 38 = .ok (.iload_n 1, 1) := by decide +kernel
theorem dX12_sure_39 : decode cX12_sure 39 = .ok (.bipush 10, 2) := by decide +kernel
theorem dX12_sure_41 : decode cX12_sure 41 = .ok (.idiv, 1) := by decide +kernel
theorem dX12_sure_42 : decode cX12_sure 42 = .ok (.iload_n 1, 1) := by decide +kernel
theorem dX12_sure_43 : decode cX12_sure 43 = .ok (.bipush 10, 2) := by decide +kernel
theorem dX12_sure_45 : decode cX12_sure 45 = .ok (.irem, 1) := by decide +kernel
theorem dX12_sure_46 : decode cX12_sure 46 = .ok (.iconst 0, 1) := by decide +kernel
theorem dX12_sure_47 : decode cX12_sure 47 = .ok (.invokevirtual 316, 3) := by decide +kernel
theorem dX12_sure_50 : decode cX12_sure 50 = .ok (.istore_n 2, 1) := by decide +kernel
theorem dX12_sure_51 : decode cX12_sure 51 = .ok (.iload_n 2, 1) := by decide +kernel
theorem dX12_sure_52 : decode cX12_sure 52 = .ok (.bipush 6, 2) := by decide +kernel
theorem dX12_sure_54 : decode cX12_sure 54 = .ok (.if_icmp .le 8, 3) := by decide +kernel
theorem dX12_sure_57 : decode cX12_sure 57 = .ok (.bipush (-2), 2) := by decide +kernel
theorem dX12_sure_59 : decode cX12_sure 59 = .ok (.goto 4, 3) := by decide +kernel
theorem dX12_sure_62 : decode cX12_sure 62 = .ok (.iload_n 2, 1) := by decide +kernel
theorem dX12_sure_63 : decode cX12_sure 63 = .ok (.ireturn, 1) := by decide +kernel
theorem dX12_layCharges_0 : decode cX12_layCharges 0 = .ok (.aload_n 0, 1) := by decide +kernel
theorem dX12_layCharges_1 : decode cX12_layCharges 1 = .ok (.iconst 0, 1) := by decide +kernel
theorem dX12_layCharges_2 : decode cX12_layCharges 2 = .ok (.putfield 319, 3) := by decide +kernel
theorem dX12_layCharges_5 : decode cX12_layCharges 5 = .ok (.iconst 0, 1) := by decide +kernel
theorem dX12_layCharges_6 : decode cX12_layCharges 6 = .ok (.istore_n 2, 1) := by decide +kernel
theorem dX12_layCharges_7 : decode cX12_layCharges 7 = .ok (.iconst 2, 1) := by decide +kernel
theorem dX12_layCharges_8 : decode cX12_layCharges 8 = .ok (.iload_n 2, 1) := by decide +kernel
theorem dX12_layCharges_9 : decode cX12_layCharges 9 = .ok (.imul, 1) := by decide +kernel
theorem dX12_layCharges_10 : decode cX12_layCharges 10 = .ok (.iconst 1, 1) := by decide +kernel
theorem dX12_layCharges_11 : decode cX12_layCharges 11 = .ok (.iadd, 1) := by decide +kernel
theorem dX12_layCharges_12 : decode cX12_layCharges 12 = .ok (.aload_n 0, 1) := by decide +kernel
theorem dX12_layCharges_13 : decode cX12_layCharges 13 = .ok (.getfield 108, 3) := by decide +kernel
theorem dX12_layCharges_16 : decode cX12_layCharges 16 = .ok (.iload_n 1, 1) := by decide +kernel
theorem dX12_layCharges_17 : decode cX12_layCharges 17 = .ok (.iaload, 1) := by decide +kernel
theorem dX12_layCharges_18 : decode cX12_layCharges 18 = .ok (.if_icmp .ge 85, 3) := by decide +kernel
theorem dX12_layCharges_21 : decode cX12_layCharges 21 = .ok (.iload_n 2, 1) := by decide +kernel
theorem dX12_layCharges_22 : decode cX12_layCharges 22 = .ok (.bipush 10, 2) := by decide +kernel
theorem dX12_layCharges_24 : decode cX12_layCharges 24 = .ok (.if_icmp .ge 79, 3) := by decide +kernel
theorem dX12_layCharges_27 : decode cX12_layCharges 27 = .ok (.aload_n 0, 1) := by decide +kernel
theorem dX12_layCharges_28 : decode cX12_layCharges 28 = .ok (.iload_n 1, 1) := by decide +kernel
theorem dX12_layCharges_29 : decode cX12_layCharges 29 = .ok (.iconst 2, 1) := by decide +kernel
theorem dX12_layCharges_30 : decode cX12_layCharges 30 = .ok (.iload_n 2, 1) := by decide +kernel
theorem dX12_layCharges_31 : decode cX12_layCharges 31 = .ok (.imul, 1) := by decide +kernel
theorem dX12_layCharges_32 : decode cX12_layCharges 32 = .ok (.invokevirtual 267, 3) := by decide +kernel
theorem dX12_layCharges_35 : decode cX12_layCharges 35 = .ok (.istore_n 3, 1) := by decide +kernel
theorem dX12_layCharges_36 : decode cX12_layCharges 36 = .ok (.aload_n 0, 1) := by decide +kernel
theorem dX12_layCharges_37 : decode cX12_layCharges 37 = .ok (.iload_n 1, 1) := by decide +kernel
theorem dX12_layCharges_38 : decode cX12_layCharges 38 = .ok (.iconst 2, 1) := by decide +kernel
theorem dX12_layCharges_39 : decode cX12_layCharges 39 = .ok (.iload_n 2, 1) := by decide +kernel
theorem dX12_layCharges_40 : decode cX12_layCharges 40 = .ok (.imul, 1) := by decide +kernel
theorem dX12_layCharges_41 : decode cX12_layCharges 41 = .ok (.iconst 1, 1) := by decide +kernel
theorem dX12_layCharges_42 : decode cX12_layCharges 42 = .ok (.iadd, 1) := by decide +kernel
theorem dX12_layCharges_43 : decode cX12_layCharges 43 = .ok (.invokevirtual 267, 3) := by decide +kernel
theorem dX12_layCharges_46 : decode cX12_layCharges 46 = .ok (.istore 4, 2) := by decide +kernel
theorem dX12_layCharges_48 : decode cX12_layCharges 48 = .ok (.aload_n 0, 1) := by decide +kernel
theorem dX12_layCharges_49 : decode cX12_layCharges 49 = .ok (.iload_n 3, 1) := by decide +kernel
theorem dX12_layCharges_50 : decode cX12_layCharges 50 = .ok (.invokevirtual 129, 3) := by decide +kernel
theorem dX12_layCharges_53 : decode cX12_layCharges 53 = .ok (.ifCond .eq 18, 3) := by decide +kernel
theorem dX12_layCharges_56 : decode cX12_layCharges 56 = .ok (.aload_n 0, 1) := by decide +kernel
theorem dX12_layCharges_57 : decode cX12_layCharges 57 = .ok (.iload 4, 2) := by decide +kernel
theorem dX12_layCharges_59 : decode cX12_layCharges 59 = .ok (.invokevirtual 129, 3) := by decide +kernel
theorem dX12_layCharges_62 : decode cX12_layCharges 62 = .ok (.ifCond .eq 9, 3) := by decide +kernel
theorem dX12_layCharges_65 : decode cX12_layCharges 65 = .ok (.iload_n 3, 1) := by decide +kernel
theorem dX12_layCharges_66 : decode cX12_layCharges 66 = .ok (.iload 4, 2) := by decide +kernel
theorem dX12_layCharges_68 : decode cX12_layCharges 68 = .ok (.if_icmp .ne 4, 3) := by decide +kernel
theorem dX12_layCharges_71 : decode cX12_layCharges 71 = .ok (.return_, 1) := by decide +kernel
theorem dX12_layCharges_72 : decode cX12_layCharges 72 = .ok (.aload_n 0, 1) := by decide +kernel
theorem dX12_layCharges_73 : decode cX12_layCharges 73 = .ok (.getfield 78, 3) := by decide +kernel
theorem dX12_layCharges_76 : decode cX12_layCharges 76 = .ok (.iload_n 2, 1) := by decide +kernel
theorem dX12_layCharges_77 : decode cX12_layCharges 77 = .ok (.iload_n 3, 1) := by decide +kernel
theorem dX12_layCharges_78 : decode cX12_layCharges 78 = .ok (.iastore, 1) := by decide +kernel
theorem dX12_layCharges_79 : decode cX12_layCharges 79 = .ok (.aload_n 0, 1) := by decide +kernel
theorem dX12_layCharges_80 : decode cX12_layCharges 80 = .ok (.getfield 81, 3) := by decide +kernel
theorem dX12_layCharges_83 : decode cX12_layCharges 83 = .ok (.iload_n 2, 1) := by decide +kernel
theorem dX12_layCharges_84 : decode cX12_layCharges 84 = .ok (.iload 4, 2) := by decide +kernel
theorem dX12_layCharges_86 : decode cX12_layCharges 86 = .ok (.iastore, 1) := by decide +kernel
theorem dX12_layCharges_87 : decode cX12_layCharges 87 = .ok (.aload_n 0, 1) := by decide +kernel
theorem dX12_layCharges_88 : decode cX12_layCharges 88 = .ok (.dup, 1) := by decide +kernel
theorem dX12_layCharges_89 : decode cX12_layCharges 89 = .ok (.getfield 319, 3) := by decide +kernel
theorem dX12_layCharges_92 : decode cX12_layCharges 92 = .ok (.iconst 1, 1) := by decide +kernel
theorem dX12_layCharges_93 : decode cX12_layCharges 93 = .ok (.iadd, 1) := by decide +kernel
theorem dX12_layCharges_94 : decode cX12_layCharges 94 = .ok (.putfield 319, 3) := by decide +kernel
theorem dX12_layCharges_97 : decode cX12_layCharges 97 = .ok (.iinc 2 1, 3) := by decide +kernel
theorem dX12_layCharges_100 : decode cX12_layCharges 100 = .ok (.goto (-93), 3) := by decide +kernel
theorem dX12_layCharges_103 : decode cX12_layCharges 103 = .ok (.return_, 1) := by decide +kernel
theorem dX12_isCharged_0 : decode cX12_isCharged 0 = .ok (.iconst 0, 1) := by decide +kernel
theorem dX12_isCharged_1 : decode cX12_isCharged 1 = .ok (.istore_n 3, 1) := by decide +kernel
theorem dX12_isCharged_2 : decode cX12_isCharged 2 = .ok (.iload_n 3, 1) := by decide +kernel
theorem dX12_isCharged_3 : decode cX12_isCharged 3 = .ok (.aload_n 0, 1) := by decide +kernel
theorem dX12_isCharged_4 : decode cX12_isCharged 4 = .ok (.getfield 319, 3) := by decide +kernel
theorem dX12_isCharged_7 : decode cX12_isCharged 7 = .ok (.if_icmp .ge 31, 3) := by decide +kernel
theorem dX12_isCharged_10 : decode cX12_isCharged 10 = .ok (.aload_n 0, 1) := by decide +kernel
theorem dX12_isCharged_11 : decode cX12_isCharged 11 = .ok (.getfield 78, 3) := by decide +kernel
theorem dX12_isCharged_14 : decode cX12_isCharged 14 = .ok (.iload_n 3, 1) := by decide +kernel
theorem dX12_isCharged_15 : decode cX12_isCharged 15 = .ok (.iaload, 1) := by decide +kernel
theorem dX12_isCharged_16 : decode cX12_isCharged 16 = .ok (.iload_n 1, 1) := by decide +kernel
theorem dX12_isCharged_17 : decode cX12_isCharged 17 = .ok (.if_icmp .ne 15, 3) := by decide +kernel
theorem dX12_isCharged_20 : decode cX12_isCharged 20 = .ok (.aload_n 0, 1) := by decide +kernel
theorem dX12_isCharged_21 : decode cX12_isCharged 21 = .ok (.getfield 81, 3) := by decide +kernel
theorem dX12_isCharged_24 : decode cX12_isCharged 24 = .ok (.iload_n 3, 1) := by decide +kernel
theorem dX12_isCharged_25 : decode cX12_isCharged 25 = .ok (.iaload, 1) := by decide +kernel
theorem dX12_isCharged_26 : decode cX12_isCharged 26 = .ok (.iload_n 2, 1) := by decide +kernel
theorem dX12_isCharged_27 : decode cX12_isCharged 27 = .ok (.if_icmp .ne 5, 3) := by decide +kernel
theorem dX12_isCharged_30 : decode cX12_isCharged 30 = .ok (.iconst 1, 1) := by decide +kernel
theorem dX12_isCharged_31 : decode cX12_isCharged 31 = .ok (.ireturn, 1) := by decide +kernel
theorem dX12_isCharged_32 : decode cX12_isCharged 32 = .ok (.iinc 3 1, 3) := by decide +kernel
theorem dX12_isCharged_35 : decode cX12_isCharged 35 = .ok (.goto (-33), 3) := by decide +kernel
theorem dX12_isCharged_38 : decode cX12_isCharged 38 = .ok (.iconst 0, 1) := by decide +kernel
theorem dX12_isCharged_39 : decode cX12_isCharged 39 = .ok (.ireturn, 1) := by decide +kernel
theorem dX12_isAnyCharged_0 : decode cX12_isAnyCharged 0 = .ok (.iconst 0, 1) := by decide +kernel
theorem dX12_isAnyCharged_1 : decode cX12_isAnyCharged 1 = .ok (.istore_n 2, 1) := by decide +kernel
theorem dX12_isAnyCharged_2 : decode cX12_isAnyCharged 2 = .ok (.iload_n 2, 1) := by decide +kernel
theorem dX12_isAnyCharged_3 : decode cX12_isAnyCharged 3 = .ok (.aload_n 0, 1) := by decide +kernel
theorem dX12_isAnyCharged_4 : decode cX12_isAnyCharged 4 = .ok (.getfield 319, 3) := by decide +kernel
theorem dX12_isAnyCharged_7 : decode cX12_isAnyCharged 7 = .ok (.if_icmp .ge 21, 3) := by decide +kernel
theorem dX12_isAnyCharged_10 : decode cX12_isAnyCharged 10 = .ok (.aload_n 0, 1) := by decide +kernel
theorem dX12_isAnyCharged_11 : decode cX12_isAnyCharged 11 = .ok (.getfield 81, 3) := by decide +kernel
theorem dX12_isAnyCharged_14 : decode cX12_isAnyCharged 14 = .ok (.iload_n 2, 1) := by decide +kernel
theorem dX12_isAnyCharged_15 : decode cX12_isAnyCharged 15 = .ok (.iaload, 1) := by decide +kernel
theorem dX12_isAnyCharged_16 : decode cX12_isAnyCharged 16 = .ok (.iload_n 1, 1) := by decide +kernel
theorem dX12_isAnyCharged_17 : decode cX12_isAnyCharged 17 = .ok (.if_icmp .ne 5, 3) := by decide +kernel
theorem dX12_isAnyCharged_20 : decode cX12_isAnyCharged 20 = .ok (.iconst 1, 1) := by decide +kernel
theorem dX12_isAnyCharged_21 : decode cX12_isAnyCharged 21 = .ok (.ireturn, 1) := by decide +kernel
theorem dX12_isAnyCharged_22 : decode cX12_isAnyCharged 22 = .ok (.iinc 2 1, 3) := by decide +kernel
theorem dX12_isAnyCharged_25 : decode cX12_isAnyCharged 25 = .ok (.goto (-23), 3) := by decide +kernel
theorem dX12_isAnyCharged_28 : decode cX12_isAnyCharged 28 = .ok (.iconst 0, 1) := by decide +kernel
theorem dX12_isAnyCharged_29 : decode cX12_isAnyCharged 29 = .ok (.ireturn, 1) := by decide +kernel
theorem dX12_threes_0 : decode cX12_threes 0 = .ok (.iconst 0, 1) := by decide +kernel
theorem dX12_threes_1 : decode cX12_threes 1 = .ok (.istore_n 1, 1) := by decide +kernel
theorem dX12_threes_2 : decode cX12_threes 2 = .ok (.iconst 0, 1) := by decide +kernel
theorem dX12_threes_3 : decode cX12_threes 3 = .ok (.istore_n 2, 1) := by decide +kernel
theorem dX12_threes_4 : decode cX12_threes 4 = .ok (.iload_n 2, 1) := by decide +kernel
theorem dX12_threes_5 : decode cX12_threes 5 = .ok (.aload_n 0, 1) := by decide +kernel
theorem dX12_threes_6 : decode cX12_threes 6 = .ok (.getfield 122, 3) := by decide +kernel
theorem dX12_threes_9 : decode cX12_threes 9 = .ok (.if_icmp .ge 85, 3) := by decide +kernel
theorem dX12_threes_12 : decode cX12_threes 12 = .ok (.iload_n 2, 1) := by decide +kernel
theorem dX12_threes_13 : decode cX12_threes 13 = .ok (.iconst 1, 1) := by decide +kernel
theorem dX12_threes_14 : decode cX12_threes 14 = .ok (.iadd, 1) := by decide +kernel
theorem dX12_threes_15 : decode cX12_threes 15 = .ok (.istore_n 3, 1) := by decide +kernel
theorem dX12_threes_16 : decode cX12_threes 16 = .ok (.iload_n 3, 1) := by decide +kernel
theorem dX12_threes_17 : decode cX12_threes 17 = .ok (.aload_n 0, 1) := by decide +kernel
theorem dX12_threes_18 : decode cX12_threes 18 = .ok (.getfield 122, 3) := by decide +kernel
theorem dX12_threes_21 : decode cX12_threes 21 = .ok (.if_icmp .ge 67, 3) := by decide +kernel
theorem dX12_threes_24 : decode cX12_threes 24 = .ok (.iload_n 2, 1) := by decide +kernel
theorem dX12_threes_25 : decode cX12_threes 25 = .ok (.iconst 1, 1) := by decide +kernel
theorem dX12_threes_26 : decode cX12_threes 26 = .ok (.iadd, 1) := by decide +kernel
theorem dX12_threes_27 : decode cX12_threes 27 = .ok (.istore 4, 2) := by decide +kernel
theorem dX12_threes_29 : decode cX12_threes 29 = .ok (.iload 4, 2) := by decide +kernel
theorem dX12_threes_31 : decode cX12_threes 31 = .ok (.aload_n 0, 1) := by decide +kernel
theorem dX12_threes_32 : decode cX12_threes 32 = .ok (.getfield 122, 3) := by decide +kernel
theorem dX12_threes_35 : decode cX12_threes 35 = .ok (.if_icmp .ge 47, 3) := by decide +kernel
theorem dX12_threes_38 : decode cX12_threes 38 = .ok (.iload 4, 2) := by decide +kernel
theorem dX12_threes_40 : decode cX12_threes 40 = .ok (.iload_n 3, 1) := by decide +kernel
theorem dX12_threes_41 : decode cX12_threes 41 = .ok (.if_icmp .eq 35, 3) := by decide +kernel
theorem dX12_threes_44 : decode cX12_threes 44 = .ok (.aload_n 0, 1) := by decide +kernel
theorem dX12_threes_45 : decode cX12_threes 45 = .ok (.iload_n 2, 1) := by decide +kernel
theorem dX12_threes_46 : decode cX12_threes 46 = .ok (.iload_n 3, 1) := by decide +kernel
theorem dX12_threes_47 : decode cX12_threes 47 = .ok (.invokevirtual 322, 3) := by decide +kernel
theorem dX12_threes_50 : decode cX12_threes 50 = .ok (.ifCond .eq 26, 3) := by decide +kernel
theorem dX12_threes_53 : decode cX12_threes 53 = .ok (.aload_n 0, 1) := by decide +kernel
theorem dX12_threes_54 : decode cX12_threes 54 = .ok (.iload_n 3, 1) := by decide +kernel
theorem dX12_threes_55 : decode cX12_threes 55 = .ok (.iload 4, 2) := by decide +kernel
theorem dX12_threes_57 : decode cX12_threes 57 = .ok (.invokevirtual 322, 3) := by decide +kernel
theorem dX12_threes_60 : decode cX12_threes 60 = .ok (.ifCond .eq 16, 3) := by decide +kernel
theorem dX12_threes_63 : decode cX12_threes 63 = .ok (.aload_n 0, 1) := by decide +kernel
theorem dX12_threes_64 : decode cX12_threes 64 = .ok (.iload 4, 2) := by decide +kernel
theorem dX12_threes_66 : decode cX12_threes 66 = .ok (.iload_n 2, 1) := by decide +kernel
theorem dX12_threes_67 : decode cX12_threes 67 = .ok (.invokevirtual 322, 3) := by decide +kernel
theorem dX12_threes_70 : decode cX12_threes 70 = .ok (.ifCond .eq 6, 3) := by decide +kernel
theorem dX12_threes_73 : decode cX12_threes 73 = .ok (.iinc 1 1, 3) := by decide +kernel
theorem dX12_threes_76 : decode cX12_threes 76 = .ok (.iinc 4 1, 3) := by decide +kernel
theorem dX12_threes_79 : decode cX12_threes 79 = .ok (.goto (-50), 3) := by decide +kernel
theorem dX12_threes_82 : decode cX12_threes 82 = .ok (.iinc 3 1, 3) := by decide +kernel
theorem dX12_threes_85 : decode cX12_threes 85 = .ok (.goto (-69), 3) := by decide +kernel
theorem dX12_threes_88 : decode cX12_threes 88 = .ok (.iinc 2 1, 3) := by decide +kernel
theorem dX12_threes_91 : decode cX12_threes 91 = .ok (.goto (-87), 3) := by decide +kernel
theorem dX12_threes_94 : decode cX12_threes 94 = .ok (.iload_n 1, 1) := by decide +kernel
theorem dX12_threes_95 : decode cX12_threes 95 = .ok (.ireturn, 1) := by decide +kernel
theorem dX12_charges_0 : decode cX12_charges 0 = .ok (.iload_n 1, 1) := by decide +kernel
theorem dX12_charges_1 : decode cX12_charges 1 = .ok (.invokestatic 137, 3) := by decide +kernel
theorem dX12_charges_4 : decode cX12_charges 4 = .ok (.ifCond .eq 12, 3) := by decide +kernel
theorem dX12_charges_7 : decode cX12_charges 7 = .ok (.iload_n 2, 1) := by decide +kernel
theorem dX12_charges_8 : decode cX12_charges 8 = .ok (.iconst 0, 1) := by decide +kernel
theorem dX12_charges_9 : decode cX12_charges 9 = .ok (.iconst 2, 1) := by decide +kernel
theorem dX12_charges_10 : decode cX12_charges 10 = .ok (.invokestatic 125, 3) := by decide +kernel
theorem dX12_charges_13 : decode cX12_charges 13 = .ok (.ifCond .ne 5, 3) := by decide +kernel
theorem dX12_charges_16 : decode cX12_charges 16 = .ok (.iconst (-1), 1) := by decide +kernel
theorem dX12_charges_17 : decode cX12_charges 17 = .ok (.ireturn, 1) := by decide +kernel
theorem dX12_charges_18 : decode cX12_charges 18 = .ok (.aload_n 0, 1) := by decide +kernel
theorem dX12_charges_19 : decode cX12_charges 19 = .ok (.iload_n 1, 1) := by decide +kernel
theorem dX12_charges_20 : decode cX12_charges 20 = .ok (.invokevirtual 281, 3) := by decide +kernel
theorem dX12_charges_23 : decode cX12_charges 23 = .ok (.ifCond .ge 9, 3) := by decide +kernel
theorem dX12_charges_26 : decode cX12_charges 26 = .ok (.aload_n 0, 1) := by decide +kernel
theorem dX12_charges_27 : decode cX12_charges 27 = .ok (.iload_n 1, 1) := by decide +kernel
theorem dX12_charges_28 : decode cX12_charges 28 = .ok (.invokevirtual 281, 3) := by decide +kernel
theorem dX12_charges_31 : decode cX12_charges 31 = .ok (.ireturn, 1) := by decide +kernel
theorem dX12_charges_32 : decode cX12_charges 32 = .ok (.aload_n 0, 1) := by decide +kernel
theorem dX12_charges_33 : decode cX12_charges 33 = .ok (.iload_n 1, 1) := by decide +kernel
theorem dX12_charges_34 : decode cX12_charges 34 = .ok (.invokevirtual 325, 3) := by decide +kernel
theorem dX12_charges_37 : decode cX12_charges 37 = .ok (.iload_n 2, 1) := by decide +kernel
theorem dX12_charges_38 : decode cX12_charges 38 = .ok (.iconst 1, 1) := by decide +kernel
theorem dX12_charges_39 : decode cX12_charges 39 = .ok (.if_icmp .ne 8, 3) := by decide +kernel
theorem dX12_charges_42 : decode cX12_charges 42 = .ok (.aload_n 0, 1) := by decide +kernel
theorem dX12_charges_43 : decode cX12_charges 43 = .ok (.invokevirtual 328, 3) := by decide +kernel
theorem dX12_charges_46 : decode cX12_charges 46 = .ok (.ireturn, 1) := by decide +kernel
theorem dX12_charges_47 : decode cX12_charges 47 = .ok (.iload_n 2, 1) := by decide +kernel
theorem dX12_charges_48 : decode cX12_charges 48 = .ok (.iconst 2, 1) := by decide +kernel
theorem dX12_charges_49 : decode cX12_charges 49 = .ok (.if_icmp .ne 8, 3) := by decide +kernel
theorem dX12_charges_52 : decode cX12_charges 52 = .ok (.aload_n 0, 1) := by decide +kernel
theorem dX12_charges_53 : decode cX12_charges 53 = .ok (.getfield 319, 3) := by decide +kernel
theorem dX12_charges_56 : decode cX12_charges 56 = .ok (.ireturn, 1) := by decide +kernel
theorem dX12_charges_57 : decode cX12_charges 57 = .ok (.iconst 0, 1) := by decide +kernel
theorem dX12_charges_58 : decode cX12_charges 58 = .ok (.istore_n 3, 1) := by decide +kernel
theorem dX12_charges_59 : decode cX12_charges 59 = .ok (.iconst 0, 1) := by decide +kernel
theorem dX12_charges_60 : decode cX12_charges 60 = .ok (.istore 4, 2) := by decide +kernel
theorem dX12_charges_62 : decode cX12_charges 62 = .ok (.iload 4, 2) := by decide +kernel
theorem dX12_charges_64 : decode cX12_charges 64 = .ok (.aload_n 0, 1) := by decide +kernel
theorem dX12_charges_65 : decode cX12_charges 65 = .ok (.getfield 122, 3) := by decide +kernel
theorem dX12_charges_68 : decode cX12_charges 68 = .ok (.if_icmp .ge 25, 3) := by decide +kernel
theorem dX12_charges_71 : decode cX12_charges 71 = .ok (.aload_n 0, 1) := by decide +kernel
theorem dX12_charges_72 : decode cX12_charges 72 = .ok (.iload 4, 2) := by decide +kernel
theorem dX12_charges_74 : decode cX12_charges 74 = .ok (.invokevirtual 331, 3) := by decide +kernel
theorem dX12_charges_77 : decode cX12_charges 77 = .ok (.ifCond .ne 10, 3) := by decide +kernel
theorem dX12_charges_80 : decode cX12_charges 80 = .ok (.iload_n 3, 1) := by decide +kernel
theorem dX12_charges_81 : decode cX12_charges 81 = .ok (.iconst 1, 1) := by decide +kernel
theorem dX12_charges_82 : decode cX12_charges 82 = .ok (.iload 4, 2) := by decide +kernel
theorem dX12_charges_84 : decode cX12_charges 84 = .ok (.ishl, 1) := by decide +kernel
theorem dX12_charges_85 : decode cX12_charges 85 = .ok (.ior, 1) := by decide +kernel
theorem dX12_charges_86 : decode cX12_charges 86 = .ok (.istore_n 3, 1) := by decide +kernel
theorem dX12_charges_87 : decode cX12_charges 87 = .ok (.iinc 4 1, 3) := by decide +kernel
theorem dX12_charges_90 : decode cX12_charges 90 = .ok (.goto (-28), 3) := by decide +kernel
theorem dX12_charges_93 : decode cX12_charges 93 = .ok (.iload_n 3, 1) := by decide +kernel
theorem dX12_charges_94 : decode cX12_charges 94 = .ok (.ireturn, 1) := by decide +kernel
theorem dX12_mayHear_0 : decode cX12_mayHear 0 = .ok (.iconst 0, 1) := by decide +kernel
theorem dX12_mayHear_1 : decode cX12_mayHear 1 = .ok (.istore_n 2, 1) := by decide +kernel
theorem dX12_mayHear_2 : decode cX12_mayHear 2 = .ok (.iload_n 2, 1) := by decide +kernel
theorem dX12_mayHear_3 : decode cX12_mayHear 3 = .ok (.iload_n 1, 1) := by decide +kernel
theorem dX12_mayHear_4 : decode cX12_mayHear 4 = .ok (.if_icmp .ge 56, 3) := by decide +kernel
theorem dX12_mayHear_7 : decode cX12_mayHear 7 = .ok (.aload_n 0, 1) := by decide +kernel
theorem dX12_mayHear_8 : decode cX12_mayHear 8 = .ok (.getfield 84, 3) := by decide +kernel
theorem dX12_mayHear_11 : decode cX12_mayHear 11 = .ok (.iload_n 2, 1) := by decide +kernel
theorem dX12_mayHear_12 : decode cX12_mayHear 12 = .ok (.iaload, 1) := by decide +kernel
theorem dX12_mayHear_13 : decode cX12_mayHear 13 = .ok (.aload_n 0, 1) := by decide +kernel
theorem dX12_mayHear_14 : decode cX12_mayHear 14 = .ok (.getfield 84, 3) := by decide +kernel
theorem dX12_mayHear_17 : decode cX12_mayHear 17 = .ok (.iload_n 1, 1) := by decide +kernel
theorem dX12_mayHear_18 : decode cX12_mayHear 18 = .ok (.iaload, 1) := by decide +kernel
theorem dX12_mayHear_19 : decode cX12_mayHear 19 = .ok (.if_icmp .ne 35, 3) := by decide +kernel
theorem dX12_mayHear_22 : decode cX12_mayHear 22 = .ok (.aload_n 0, 1) := by decide +kernel
theorem dX12_mayHear_23 : decode cX12_mayHear 23 = .ok (.getfield 78, 3) := by decide +kernel
theorem dX12_mayHear_26 : decode cX12_mayHear 26 = .ok (.iload_n 2, 1) := by decide +kernel
theorem dX12_mayHear_27 : decode cX12_mayHear 27 = .ok (.iaload, 1) := by decide +kernel
theorem dX12_mayHear_28 : decode cX12_mayHear 28 = .ok (.aload_n 0, 1) := by decide +kernel
theorem dX12_mayHear_29 : decode cX12_mayHear 29 = .ok (.getfield 81, 3) := by decide +kernel
theorem dX12_mayHear_32 : decode cX12_mayHear 32 = .ok (.iload_n 1, 1) := by decide +kernel
theorem dX12_mayHear_33 : decode cX12_mayHear 33 = .ok (.iaload, 1) := by decide +kernel
theorem dX12_mayHear_34 : decode cX12_mayHear 34 = .ok (.if_icmp .eq 18, 3) := by decide +kernel
theorem dX12_mayHear_37 : decode cX12_mayHear 37 = .ok (.aload_n 0, 1) := by decide +kernel
theorem dX12_mayHear_38 : decode cX12_mayHear 38 = .ok (.getfield 81, 3) := by decide +kernel
theorem dX12_mayHear_41 : decode cX12_mayHear 41 = .ok (.iload_n 2, 1) := by decide +kernel
theorem dX12_mayHear_42 : decode cX12_mayHear 42 = .ok (.iaload, 1) := by decide +kernel
theorem dX12_mayHear_43 : decode cX12_mayHear 43 = .ok (.aload_n 0, 1) := by decide +kernel
theorem dX12_mayHear_44 : decode cX12_mayHear 44 = .ok (.getfield 78, 3) := by decide +kernel
theorem dX12_mayHear_47 : decode cX12_mayHear 47 = .ok (.iload_n 1, 1) := by decide +kernel
theorem dX12_mayHear_48 : decode cX12_mayHear 48 = .ok (.iaload, 1) := by decide +kernel
theorem dX12_mayHear_49 : decode cX12_mayHear 49 = .ok (.if_icmp .ne 5, 3) := by decide +kernel
theorem dX12_mayHear_52 : decode cX12_mayHear 52 = .ok (.iconst 0, 1) := by decide +kernel
theorem dX12_mayHear_53 : decode cX12_mayHear 53 = .ok (.ireturn, 1) := by decide +kernel
theorem dX12_mayHear_54 : decode cX12_mayHear 54 = .ok (.iinc 2 1, 3) := by decide +kernel
theorem dX12_mayHear_57 : decode cX12_mayHear 57 = .ok (.goto (-55), 3) := by decide +kernel
theorem dX12_mayHear_60 : decode cX12_mayHear 60 = .ok (.iconst 1, 1) := by decide +kernel
theorem dX12_mayHear_61 : decode cX12_mayHear 61 = .ok (.ireturn, 1) := by decide +kernel
theorem dX12_goDays_0 : decode cX12_goDays 0 = .ok (.iload_n 2, 1) := by decide +kernel
theorem dX12_goDays_1 : decode cX12_goDays 1 = .ok (.aload_n 0, 1) := by decide +kernel
theorem dX12_goDays_2 : decode cX12_goDays 2 = .ok (.getfield 334, 3) := by decide +kernel
theorem dX12_goDays_5 : decode cX12_goDays 5 = .ok (.if_icmp .lt 4, 3) := by decide +kernel
theorem dX12_goDays_8 : decode cX12_goDays 8 = .ok (.return_, 1) := by decide +kernel
theorem dX12_goDays_9 : decode cX12_goDays 9 = .ok (.iload_n 1, 1) := by decide +kernel
theorem dX12_goDays_10 : decode cX12_goDays 10 = .ok (.aload_n 0, 1) := by decide +kernel
theorem dX12_goDays_11 : decode cX12_goDays 11 = .ok (.getfield 319, 3) := by decide +kernel
theorem dX12_goDays_14 : decode cX12_goDays 14 = .ok (.if_icmp .ne 37, 3) := by decide +kernel
theorem dX12_goDays_17 : decode cX12_goDays 17 = .ok (.aload_n 0, 1) := by decide +kernel
theorem dX12_goDays_18 : decode cX12_goDays 18 = .ok (.iload_n 2, 1) := by decide +kernel
theorem dX12_goDays_19 : decode cX12_goDays 19 = .ok (.putfield 334, 3) := by decide +kernel
theorem dX12_goDays_22 : decode cX12_goDays 22 = .ok (.iconst 0, 1) := by decide +kernel
theorem dX12_goDays_23 : decode cX12_goDays 23 = .ok (.istore_n 3, 1) := by decide +kernel
theorem dX12_goDays_24 : decode cX12_goDays 24 = .ok (.iload_n 3, 1) := by decide +kernel
theorem dX12_goDays_25 : decode cX12_goDays 25 = .ok (.aload_n 0, 1) := by decide +kernel
theorem dX12_goDays_26 : decode cX12_goDays 26 = .ok (.getfield 319, 3) := by decide +kernel
theorem dX12_goDays_29 : decode cX12_goDays 29 = .ok (.if_icmp .ge 21, 3) := by decide +kernel
theorem dX12_goDays_32 : decode cX12_goDays 32 = .ok (.aload_n 0, 1) := by decide +kernel
theorem dX12_goDays_33 : decode cX12_goDays 33 = .ok (.getfield 87, 3) := by decide +kernel
theorem dX12_goDays_36 : decode cX12_goDays 36 = .ok (.iload_n 3, 1) := by decide +kernel
theorem dX12_goDays_37 : decode cX12_goDays 37 = .ok (.aload_n 0, 1) := by decide +kernel
theorem dX12_goDays_38 : decode cX12_goDays 38 = .ok (.getfield 84, 3) := by decide +kernel
theorem dX12_goDays_41 : decode cX12_goDays 41 = .ok (.iload_n 3, 1) := by decide +kernel
theorem dX12_goDays_42 : decode cX12_goDays 42 = .ok (.iaload, 1) := by decide +kernel
theorem dX12_goDays_43 : decode cX12_goDays 43 = .ok (.iastore, 1) := by decide +kernel
theorem dX12_goDays_44 : decode cX12_goDays 44 = .ok (.iinc 3 1, 3) := by decide +kernel
theorem dX12_goDays_47 : decode cX12_goDays 47 = .ok (.goto (-23), 3) := by decide +kernel
theorem dX12_goDays_50 : decode cX12_goDays 50 = .ok (.return_, 1) := by decide +kernel
theorem dX12_goDays_51 : decode cX12_goDays 51 = .ok (.iconst 0, 1) := by decide +kernel
theorem dX12_goDays_52 : decode cX12_goDays 52 = .ok (.istore_n 3, 1) := by decide +kernel
theorem dX12_goDays_53 : decode cX12_goDays 53 = .ok (.iload_n 3, 1) := by decide +kernel
theorem dX12_goDays_54 : decode cX12_goDays 54 = .ok (.iload_n 2, 1) := by decide +kernel
theorem dX12_goDays_55 : decode cX12_goDays 55 = .ok (.if_icmp .gt 43, 3) := by decide +kernel
theorem dX12_goDays_58 : decode cX12_goDays 58 = .ok (.aload_n 0, 1) := by decide +kernel
theorem dX12_goDays_59 : decode cX12_goDays 59 = .ok (.getfield 84, 3) := by decide +kernel
theorem dX12_goDays_62 : decode cX12_goDays 62 = .ok (.iload_n 1, 1) := by decide +kernel
theorem dX12_goDays_63 : decode cX12_goDays 63 = .ok (.iload_n 3, 1) := by decide +kernel
theorem dX12_goDays_64 : decode cX12_goDays 64 = .ok (.iastore, 1) := by decide +kernel
theorem dX12_goDays_65 : decode cX12_goDays 65 = .ok (.aload_n 0, 1) := by decide +kernel
theorem dX12_goDays_66 : decode cX12_goDays 66 = .ok (.iload_n 1, 1) := by decide +kernel
theorem dX12_goDays_67 : decode cX12_goDays 67 = .ok (.invokevirtual 337, 3) := by decide +kernel
theorem dX12_goDays_70 : decode cX12_goDays 70 = .ok (.ifCond .eq 22, 3) := by decide +kernel
theorem dX12_goDays_73 : decode cX12_goDays 73 = .ok (.aload_n 0, 1) := by decide +kernel
theorem dX12_goDays_74 : decode cX12_goDays 74 = .ok (.iload_n 1, 1) := by decide +kernel
theorem dX12_goDays_75 : decode cX12_goDays 75 = .ok (.iconst 1, 1) := by decide +kernel
theorem dX12_goDays_76 : decode cX12_goDays 76 = .ok (.iadd, 1) := by decide +kernel
theorem dX12_goDays_77 : decode cX12_goDays 77 = .ok (.iload_n 3, 1) := by decide +kernel
theorem dX12_goDays_78 : decode cX12_goDays 78 = .ok (.iload_n 2, 1) := by decide +kernel
theorem dX12_goDays_79 : decode cX12_goDays 79 = .ok (.if_icmp .ne 9, 3) := by decide +kernel
theorem dX12_goDays_82 : decode cX12_goDays 82 = .ok (.iload_n 2, 1) := by decide +kernel
theorem dX12_goDays_83 : decode cX12_goDays 83 = .ok (.iconst 1, 1) := by decide +kernel
theorem dX12_goDays_84 : decode cX12_goDays 84 = .ok (.iadd, 1) := by decide +kernel
theorem dX12_goDays_85 : decode cX12_goDays 85 = .ok (.goto 4, 3) := by decide +kernel
theorem dX12_goDays_88 : decode cX12_goDays 88 = .ok (.iload_n 2, 1) := by decide +kernel
theorem dX12_goDays_89 : decode cX12_goDays 89 = .ok (.invokevirtual 340, 3) := by decide +kernel
theorem dX12_goDays_92 : decode cX12_goDays 92 = .ok (.iinc 3 1, 3) := by decide +kernel
theorem dX12_goDays_95 : decode cX12_goDays 95 = .ok (.goto (-42), 3) := by decide +kernel
theorem dX12_goDays_98 : decode cX12_goDays 98 = .ok (.return_, 1) := by decide +kernel
theorem dX12_days_0 : decode cX12_days 0 = .ok (.iload_n 1, 1) := by decide +kernel
theorem dX12_days_1 : decode cX12_days 1 = .ok (.invokestatic 137, 3) := by decide +kernel
theorem dX12_days_4 : decode cX12_days 4 = .ok (.ifCond .eq 8, 3) := by decide +kernel
theorem dX12_days_7 : decode cX12_days 7 = .ok (.iload_n 2, 1) := by decide +kernel
theorem dX12_days_8 : decode cX12_days 8 = .ok (.iconst (-1), 1) := by decide +kernel
theorem dX12_days_9 : decode cX12_days 9 = .ok (.if_icmp .ge 5, 3) := by decide +kernel
theorem dX12_days_12 : decode cX12_days 12 = .ok (.iconst (-1), 1) := by decide +kernel
theorem dX12_days_13 : decode cX12_days 13 = .ok (.ireturn, 1) := by decide +kernel
theorem dX12_days_14 : decode cX12_days 14 = .ok (.aload_n 0, 1) := by decide +kernel
theorem dX12_days_15 : decode cX12_days 15 = .ok (.iload_n 1, 1) := by decide +kernel
theorem dX12_days_16 : decode cX12_days 16 = .ok (.invokevirtual 281, 3) := by decide +kernel
theorem dX12_days_19 : decode cX12_days 19 = .ok (.ifCond .ge 9, 3) := by decide +kernel
theorem dX12_days_22 : decode cX12_days 22 = .ok (.aload_n 0, 1) := by decide +kernel
theorem dX12_days_23 : decode cX12_days 23 = .ok (.iload_n 1, 1) := by decide +kernel
theorem dX12_days_24 : decode cX12_days 24 = .ok (.invokevirtual 281, 3) := by decide +kernel
theorem dX12_days_27 : decode cX12_days 27 = .ok (.ireturn, 1) := by decide +kernel
theorem dX12_days_28 : decode cX12_days 28 = .ok (.aload_n 0, 1) := by decide +kernel
theorem dX12_days_29 : decode cX12_days 29 = .ok (.iload_n 1, 1) := by decide +kernel
theorem dX12_days_30 : decode cX12_days 30 = .ok (.invokevirtual 325, 3) := by decide +kernel
theorem dX12_days_33 : decode cX12_days 33 = .ok (.aload_n 0, 1) := by decide +kernel
theorem dX12_days_34 : decode cX12_days 34 = .ok (.getfield 319, 3) := by decide +kernel
theorem dX12_days_37 : decode cX12_days 37 = .ok (.bipush 6, 2) := by decide +kernel
theorem dX12_days_39 : decode cX12_days 39 = .ok (.if_icmp .le 6, 3) := by decide +kernel
theorem dX12_days_42 : decode cX12_days 42 = .ok (.bipush (-5), 2) := by decide +kernel
theorem dX12_days_44 : decode cX12_days 44 = .ok (.ireturn, 1) := by decide +kernel
theorem dX12_days_45 : decode cX12_days 45 = .ok (.aload_n 0, 1) := by decide +kernel
theorem dX12_days_46 : decode cX12_days 46 = .ok (.bipush 7, 2) := by decide +kernel
theorem dX12_days_48 : decode cX12_days 48 = .ok (.putfield 334, 3) := by decide +kernel
theorem dX12_days_51 : decode cX12_days 51 = .ok (.aload_n 0, 1) := by decide +kernel
theorem dX12_days_52 : decode cX12_days 52 = .ok (.iconst 0, 1) := by decide +kernel
theorem dX12_days_53 : decode cX12_days 53 = .ok (.iconst 0, 1) := by decide +kernel
theorem dX12_days_54 : decode cX12_days 54 = .ok (.invokevirtual 340, 3) := by decide +kernel
theorem dX12_days_57 : decode cX12_days 57 = .ok (.iload_n 2, 1) := by decide +kernel
theorem dX12_days_58 : decode cX12_days 58 = .ok (.ifCond .ge 10, 3) := by decide +kernel
theorem dX12_days_61 : decode cX12_days 61 = .ok (.aload_n 0, 1) := by decide +kernel
theorem dX12_days_62 : decode cX12_days 62 = .ok (.getfield 334, 3) := by decide +kernel
theorem dX12_days_65 : decode cX12_days 65 = .ok (.goto 22, 3) := by decide +kernel
theorem dX12_days_68 : decode cX12_days 68 = .ok (.iload_n 2, 1) := by decide +kernel
theorem dX12_days_69 : decode cX12_days 69 = .ok (.aload_n 0, 1) := by decide +kernel
theorem dX12_days_70 : decode cX12_days 70 = .ok (.getfield 319, 3) := by decide +kernel
theorem dX12_days_73 : decode cX12_days 73 = .ok (.if_icmp .ge 12, 3) := by decide +kernel
theorem dX12_days_76 : decode cX12_days 76 = .ok (.aload_n 0, 1) := by decide +kernel
theorem dX12_days_77 : decode cX12_days 77 = .ok (.getfield 87, 3) := by decide +kernel
theorem dX12_days_80 : decode cX12_days 80 = .ok (.iload_n 2, 1) := by decide +kernel
theorem dX12_days_81 : decode cX12_days 81 = .ok (.iaload, 1) := by decide +kernel
theorem dX12_days_82 : decode cX12_days 82 = .ok (.goto 5, 3) := by decide +kernel
theorem dX12_days_85 : decode cX12_days 85 = .ok (.bipush (-2), 2) := by decide +kernel
theorem dX12_days_87 : decode cX12_days 87 = .ok (.ireturn, 1) := by decide +kernel
theorem dX12_quiet_0 : decode cX12_quiet 0 = .ok (.aload_n 0, 1) := by decide +kernel
theorem dX12_quiet_1 : decode cX12_quiet 1 = .ok (.iload_n 1, 1) := by decide +kernel
theorem dX12_quiet_2 : decode cX12_quiet 2 = .ok (.invokevirtual 129, 3) := by decide +kernel
theorem dX12_quiet_5 : decode cX12_quiet 5 = .ok (.ifCond .eq 12, 3) := by decide +kernel
theorem dX12_quiet_8 : decode cX12_quiet 8 = .ok (.iload_n 2, 1) := by decide +kernel
theorem dX12_quiet_9 : decode cX12_quiet 9 = .ok (.iconst 0, 1) := by decide +kernel
theorem dX12_quiet_10 : decode cX12_quiet 10 = .ok (.iconst 1, 1) := by decide +kernel
theorem dX12_quiet_11 : decode cX12_quiet 11 = .ok (.invokestatic 125, 3) := by decide +kernel
theorem dX12_quiet_14 : decode cX12_quiet 14 = .ok (.ifCond .ne 5, 3) := by decide +kernel
theorem dX12_quiet_17 : decode cX12_quiet 17 = .ok (.iconst (-1), 1) := by decide +kernel
theorem dX12_quiet_18 : decode cX12_quiet 18 = .ok (.ireturn, 1) := by decide +kernel
theorem dX12_quiet_19 : decode cX12_quiet 19 = .ok (.aload_n 0, 1) := by decide +kernel
theorem dX12_quiet_20 : decode cX12_quiet 20 = .ok (.invokevirtual 257, 3) := by decide +kernel
theorem dX12_quiet_23 : decode cX12_quiet 23 = .ok (.bipush 12, 2) := by decide +kernel
theorem dX12_quiet_25 : decode cX12_quiet 25 = .ok (.istore_n 3, 1) := by decide +kernel
theorem dX12_quiet_26 : decode cX12_quiet 26 = .ok (.aload_n 0, 1) := by decide +kernel
theorem dX12_quiet_27 : decode cX12_quiet 27 = .ok (.getfield 122, 3) := by decide +kernel
theorem dX12_quiet_30 : decode cX12_quiet 30 = .ok (.iconst 1, 1) := by decide +kernel
theorem dX12_quiet_31 : decode cX12_quiet 31 = .ok (.if_icmp .ne 8, 3) := by decide +kernel
theorem dX12_quiet_34 : decode cX12_quiet 34 = .ok (.bipush 12, 2) := by decide +kernel
theorem dX12_quiet_36 : decode cX12_quiet 36 = .ok (.goto 4, 3) := by decide +kernel
theorem dX12_quiet_39 : decode cX12_quiet 39 = .ok (.iconst 0, 1) := by decide +kernel
theorem dX12_quiet_40 : decode cX12_quiet 40 = .ok (.istore 4, 2) := by decide +kernel
theorem dX12_quiet_42 : decode cX12_quiet 42 = .ok (.iconst 0, 1) := by decide +kernel
theorem dX12_quiet_43 : decode cX12_quiet 43 = .ok (.istore 5, 2) := by decide +kernel
theorem dX12_quiet_45 : decode cX12_quiet 45 = .ok (.iload 5, 2) := by decide +kernel
theorem dX12_quiet_47 : decode cX12_quiet 47 = .ok (.aload_n 0, 1) := by decide +kernel
theorem dX12_quiet_48 : decode cX12_quiet 48 = .ok (.getfield 122, 3) := by decide +kernel
theorem dX12_quiet_51 : decode cX12_quiet 51 = .ok (.if_icmp .ge 47, 3) := by decide +kernel
theorem dX12_quiet_54 : decode cX12_quiet 54 = .ok (.iload 5, 2) := by decide +kernel
theorem dX12_quiet_56 : decode cX12_quiet 56 = .ok (.iload_n 1, 1) := by decide +kernel
theorem dX12_quiet_57 : decode cX12_quiet 57 = .ok (.if_icmp .ne 6, 3) := by decide +kernel
theorem dX12_quiet_60 : decode cX12_quiet 60 = .ok (.goto 32, 3) := by decide +kernel
theorem dX12_quiet_63 : decode cX12_quiet 63 = .ok (.aload_n 0, 1) := by decide +kernel
theorem dX12_quiet_64 : decode cX12_quiet 64 = .ok (.iload_n 1, 1) := by decide +kernel
theorem dX12_quiet_65 : decode cX12_quiet 65 = .ok (.iload 5, 2) := by decide +kernel
theorem dX12_quiet_67 : decode cX12_quiet 67 = .ok (.invokevirtual 260, 3) := by decide +kernel
theorem dX12_quiet_70 : decode cX12_quiet 70 = .ok (.istore 6, 2) := by decide +kernel
theorem dX12_quiet_72 : decode cX12_quiet 72 = .ok (.iload 6, 2) := by decide +kernel
theorem dX12_quiet_74 : decode cX12_quiet 74 = .ok (.iload_n 3, 1) := by decide +kernel
theorem dX12_quiet_75 : decode cX12_quiet 75 = .ok (.if_icmp .ge 6, 3) := by decide +kernel
theorem dX12_quiet_78 : decode cX12_quiet 78 = .ok (.iload 6, 2) := by decide +kernel
theorem dX12_quiet_80 : decode cX12_quiet 80 = .ok (.istore_n 3, 1) := by decide +kernel
theorem dX12_quiet_81 : decode cX12_quiet 81 = .ok (.iload 6, 2) := by decide +kernel
theorem dX12_quiet_83 : decode cX12_quiet 83 = .ok (.iload 4, 2) := by decide +kernel
theorem dX12_quiet_85 : decode cX12_quiet 85 = .ok (.if_icmp .le 7, 3) := by decide +kernel
theorem dX12_quiet_88 : decode cX12_quiet 88 = .ok (.iload 6, 2) := by decide +kernel
theorem dX12_quiet_90 : decode cX12_quiet 90 = .ok (.istore 4, 2) := by decide +kernel
theorem dX12_quiet_92 : decode cX12_quiet 92 = .ok (.iinc 5 1, 3) := by decide +kernel
theorem dX12_quiet_95 : decode cX12_quiet 95 = .ok (.goto (-50), 3) := by decide +kernel
theorem dX12_quiet_98 : decode cX12_quiet 98 = .ok (.iload_n 2, 1) := by decide +kernel
theorem dX12_quiet_99 : decode cX12_quiet 99 = .ok (.ifCond .ne 5, 3) := by decide +kernel
theorem dX12_quiet_102 : decode cX12_quiet 102 = .ok (.iload_n 3, 1) := by decide +kernel
theorem dX12_quiet_103 : decode cX12_quiet 103 = .ok (.ireturn, 1) := by decide +kernel
theorem dX12_quiet_104 : decode cX12_quiet 104 = .ok (.aload_n 0, 1) := by decide +kernel
theorem dX12_quiet_105 : decode cX12_quiet 105 = .ok (.getfield 62, 3) := by decide +kernel
theorem dX12_quiet_108 : decode cX12_quiet 108 = .ok (.iload_n 1, 1) := by decide +kernel
theorem dX12_quiet_109 : decode cX12_quiet 109 = .ok (.iaload, 1) := by decide +kernel
theorem dX12_quiet_110 : decode cX12_quiet 110 = .ok (.ifCond .ge 12, 3) := by decide +kernel
theorem dX12_quiet_113 : decode cX12_quiet 113 = .ok (.iload_n 3, 1) := by decide +kernel
theorem dX12_quiet_114 : decode cX12_quiet 114 = .ok (.iload 4, 2) := by decide +kernel
theorem dX12_quiet_116 : decode cX12_quiet 116 = .ok (.iadd, 1) := by decide +kernel
theorem dX12_quiet_117 : decode cX12_quiet 117 = .ok (.bipush 12, 2) := by decide +kernel
theorem dX12_quiet_119 : decode cX12_quiet 119 = .ok (.if_icmp .ge 7, 3) := by decide +kernel
theorem dX12_quiet_122 : decode cX12_quiet 122 = .ok (.iconst 1, 1) := by decide +kernel
theorem dX12_quiet_123 : decode cX12_quiet 123 = .ok (.goto 4, 3) := by decide +kernel
theorem dX12_quiet_126 : decode cX12_quiet 126 = .ok (.iconst 0, 1) := by decide +kernel
theorem dX12_quiet_127 : decode cX12_quiet 127 = .ok (.ireturn, 1) := by decide +kernel
theorem dX12_unknownMany_0 : decode cX12_unknownMany 0 = .ok (.iconst 0, 1) := by decide +kernel
theorem dX12_unknownMany_1 : decode cX12_unknownMany 1 = .ok (.istore_n 2, 1) := by decide +kernel
theorem dX12_unknownMany_2 : decode cX12_unknownMany 2 = .ok (.iconst 0, 1) := by decide +kernel
theorem dX12_unknownMany_3 : decode cX12_unknownMany 3 = .ok (.istore_n 3, 1) := by decide +kernel
theorem dX12_unknownMany_4 : decode cX12_unknownMany 4 = .ok (.iload_n 3, 1) := by decide +kernel
theorem dX12_unknownMany_5 : decode cX12_unknownMany 5 = .ok (.bipush 16, 2) := by decide +kernel
theorem dX12_unknownMany_7 : decode cX12_unknownMany 7 = .ok (.if_icmp .ge 72, 3) := by decide +kernel
theorem dX12_unknownMany_10 : decode cX12_unknownMany 10 = .ok (.iconst 3, 1) := by decide +kernel
theorem dX12_unknownMany_11 : decode cX12_unknownMany 11 = .ok (.iload_n 3, 1) := by decide +kernel
theorem dX12_unknownMany_12 : decode cX12_unknownMany 12 = .ok (.imul, 1) := by decide +kernel
theorem dX12_unknownMany_13 : decode cX12_unknownMany 13 = .ok (.iconst 2, 1) := by decide +kernel
theorem dX12_unknownMany_14 : decode cX12_unknownMany 14 = .ok (.iadd, 1) := by decide +kernel
theorem dX12_unknownMany_15 : decode cX12_unknownMany 15 = .ok (.aload_n 0, 1) := by decide +kernel
theorem dX12_unknownMany_16 : decode cX12_unknownMany 16 = .ok (.getfield 108, 3) := by decide +kernel
theorem dX12_unknownMany_19 : decode cX12_unknownMany 19 = .ok (.iload_n 1, 1) := by decide +kernel
theorem dX12_unknownMany_20 : decode cX12_unknownMany 20 = .ok (.iaload, 1) := by decide +kernel
theorem dX12_unknownMany_21 : decode cX12_unknownMany 21 = .ok (.if_icmp .ge 58, 3) := by decide +kernel
theorem dX12_unknownMany_24 : decode cX12_unknownMany 24 = .ok (.aload_n 0, 1) := by decide +kernel
theorem dX12_unknownMany_25 : decode cX12_unknownMany 25 = .ok (.iload_n 1, 1) := by decide +kernel
theorem dX12_unknownMany_26 : decode cX12_unknownMany 26 = .ok (.iconst 3, 1) := by decide +kernel
theorem dX12_unknownMany_27 : decode cX12_unknownMany 27 = .ok (.iload_n 3, 1) := by decide +kernel
theorem dX12_unknownMany_28 : decode cX12_unknownMany 28 = .ok (.imul, 1) := by decide +kernel
theorem dX12_unknownMany_29 : decode cX12_unknownMany 29 = .ok (.iconst 2, 1) := by decide +kernel
theorem dX12_unknownMany_30 : decode cX12_unknownMany 30 = .ok (.iadd, 1) := by decide +kernel
theorem dX12_unknownMany_31 : decode cX12_unknownMany 31 = .ok (.invokevirtual 267, 3) := by decide +kernel
theorem dX12_unknownMany_34 : decode cX12_unknownMany 34 = .ok (.iconst (-1), 1) := by decide +kernel
theorem dX12_unknownMany_35 : decode cX12_unknownMany 35 = .ok (.if_icmp .ne 38, 3) := by decide +kernel
theorem dX12_unknownMany_38 : decode cX12_unknownMany 38 = .ok (.aload_n 0, 1) := by decide +kernel
theorem dX12_unknownMany_39 : decode cX12_unknownMany 39 = .ok (.aload_n 0, 1) := by decide +kernel
theorem dX12_unknownMany_40 : decode cX12_unknownMany 40 = .ok (.iload_n 1, 1) := by decide +kernel
theorem dX12_unknownMany_41 : decode cX12_unknownMany 41 = .ok (.iconst 3, 1) := by decide +kernel
theorem dX12_unknownMany_42 : decode cX12_unknownMany 42 = .ok (.iload_n 3, 1) := by decide +kernel
theorem dX12_unknownMany_43 : decode cX12_unknownMany 43 = .ok (.imul, 1) := by decide +kernel
theorem dX12_unknownMany_44 : decode cX12_unknownMany 44 = .ok (.invokevirtual 267, 3) := by decide +kernel
theorem dX12_unknownMany_47 : decode cX12_unknownMany 47 = .ok (.invokevirtual 129, 3) := by decide +kernel
theorem dX12_unknownMany_50 : decode cX12_unknownMany 50 = .ok (.ifCond .eq 23, 3) := by decide +kernel
theorem dX12_unknownMany_53 : decode cX12_unknownMany 53 = .ok (.aload_n 0, 1) := by decide +kernel
theorem dX12_unknownMany_54 : decode cX12_unknownMany 54 = .ok (.aload_n 0, 1) := by decide +kernel
theorem dX12_unknownMany_55 : decode cX12_unknownMany 55 = .ok (.iload_n 1, 1) := by decide +kernel
theorem dX12_unknownMany_56 : decode cX12_unknownMany 56 = .ok (.iconst 3, 1) := by decide +kernel
theorem dX12_unknownMany_57 : decode cX12_unknownMany 57 = .ok (.iload_n 3, 1) := by decide +kernel
theorem dX12_unknownMany_58 : decode cX12_unknownMany 58 = .ok (.imul, 1) := by decide +kernel
theorem dX12_unknownMany_59 : decode cX12_unknownMany 59 = .ok (.iconst 1, 1) := by decide +kernel
theorem dX12_unknownMany_60 : decode cX12_unknownMany 60 = .ok (.iadd, 1) := by decide +kernel
theorem dX12_unknownMany_61 : decode cX12_unknownMany 61 = .ok (.invokevirtual 267, 3) := by decide +kernel
theorem dX12_unknownMany_64 : decode cX12_unknownMany 64 = .ok (.invokevirtual 129, 3) := by decide +kernel
theorem dX12_unknownMany_67 : decode cX12_unknownMany 67 = .ok (.ifCond .eq 6, 3) := by decide +kernel
theorem dX12_unknownMany_70 : decode cX12_unknownMany 70 = .ok (.iinc 2 1, 3) := by decide +kernel
theorem dX12_unknownMany_73 : decode cX12_unknownMany 73 = .ok (.iinc 3 1, 3) := by decide +kernel
theorem dX12_unknownMany_76 : decode cX12_unknownMany 76 = .ok (.goto (-72), 3) := by decide +kernel
theorem dX12_unknownMany_79 : decode cX12_unknownMany 79 = .ok (.iload_n 2, 1) := by decide +kernel
theorem dX12_unknownMany_80 : decode cX12_unknownMany 80 = .ok (.ireturn, 1) := by decide +kernel
theorem dX12_multiply_0 : decode cX12_multiply 0 = .ok (.aload_n 0, 1) := by decide +kernel
theorem dX12_multiply_1 : decode cX12_multiply 1 = .ok (.dup, 1) := by decide +kernel
theorem dX12_multiply_2 : decode cX12_multiply 2 = .ok (.getfield 343, 3) := by decide +kernel
theorem dX12_multiply_5 : decode cX12_multiply 5 = .ok (.iload_n 1, 1) := by decide +kernel
theorem dX12_multiply_6 : decode cX12_multiply 6 = .ok (.i2l, 1) := by decide +kernel
theorem dX12_multiply_7 : decode cX12_multiply 7 = .ok (.lmul, 1) := by decide +kernel
theorem dX12_multiply_8 : decode cX12_multiply 8 = .ok (.putfield 343, 3) := by decide +kernel
theorem dX12_multiply_11 : decode cX12_multiply 11 = .ok (.aload_n 0, 1) := by decide +kernel
theorem dX12_multiply_12 : decode cX12_multiply 12 = .ok (.aload_n 0, 1) := by decide +kernel
theorem dX12_multiply_13 : decode cX12_multiply 13 = .ok (.getfield 347, 3) := by decide +kernel
theorem dX12_multiply_16 : decode cX12_multiply 16 = .ok (.iload_n 1, 1) := by decide +kernel
theorem dX12_multiply_17 : decode cX12_multiply 17 = .ok (.i2l, 1) := by decide +kernel
theorem dX12_multiply_18 : decode cX12_multiply 18 = .ok (.lmul, 1) := by decide +kernel
theorem dX12_multiply_19 : decode cX12_multiply 19 = .ok (.aload_n 0, 1) := by decide +kernel
theorem dX12_multiply_20 : decode cX12_multiply 20 = .ok (.getfield 343, 3) := by decide +kernel
theorem dX12_multiply_23 : decode cX12_multiply 23 = .ok (.ldc2_w 350, 3) := by decide +kernel
theorem dX12_multiply_26 : decode cX12_multiply 26 = .ok (.ldiv, 1) := by decide +kernel
theorem dX12_multiply_27 : decode cX12_multiply 27 = .ok (.ladd, 1) := by decide +kernel
theorem dX12_multiply_28 : decode cX12_multiply 28 = .ok (.putfield 347, 3) := by decide +kernel
theorem dX12_multiply_31 : decode cX12_multiply 31 = .ok (.aload_n 0, 1) := by decide +kernel
theorem dX12_multiply_32 : decode cX12_multiply 32 = .ok (.dup, 1) := by decide +kernel
theorem dX12_multiply_33 : decode cX12_multiply 33 = .ok (.getfield 343, 3) := by decide +kernel
theorem dX12_multiply_36 : decode cX12_multiply 36 = .ok (.ldc2_w 350, 3) := by decide +kernel
theorem dX12_multiply_39 : decode cX12_multiply 39 = .ok (.lrem, 1) := by decide +kernel
theorem dX12_multiply_40 : decode cX12_multiply 40 = .ok (.putfield 343, 3) := by decide +kernel
theorem dX12_multiply_43 : decode cX12_multiply 43 = .ok (.return_, 1) := by decide +kernel
theorem dX12_wrongRoll_0 : decode cX12_wrongRoll 0 = .ok (.aload_n 0, 1) := by decide +kernel
theorem dX12_wrongRoll_1 : decode cX12_wrongRoll 1 = .ok (.invokevirtual 257, 3) := by decide +kernel
theorem dX12_wrongRoll_4 : decode cX12_wrongRoll 4 = .ok (.aload_n 0, 1) := by decide +kernel
theorem dX12_wrongRoll_5 : decode cX12_wrongRoll 5 = .ok (.lconst 0, 1) := by decide +kernel
theorem dX12_wrongRoll_6 : decode cX12_wrongRoll 6 = .ok (.putfield 347, 3) := by decide +kernel
theorem dX12_wrongRoll_9 : decode cX12_wrongRoll 9 = .ok (.aload_n 0, 1) := by decide +kernel
theorem dX12_wrongRoll_10 : decode cX12_wrongRoll 10 = .ok (.lconst 1, 1) := by decide +kernel
theorem dX12_wrongRoll_11 : decode cX12_wrongRoll 11 = .ok (.putfield 343, 3) := by decide +kernel
theorem dX12_wrongRoll_14 : decode cX12_wrongRoll 14 = .ok (.aload_n 0, 1) := by decide +kernel
theorem dX12_wrongRoll_15 : decode cX12_wrongRoll 15 = .ok (.bipush (-2), 2) := by decide +kernel
theorem dX12_wrongRoll_17 : decode cX12_wrongRoll 17 = .ok (.putfield 352, 3) := by decide +kernel
theorem dX12_wrongRoll_20 : decode cX12_wrongRoll 20 = .ok (.iconst 0, 1) := by decide +kernel
theorem dX12_wrongRoll_21 : decode cX12_wrongRoll 21 = .ok (.istore_n 3, 1) := by decide +kernel
theorem dX12_wrongRoll_22 : decode cX12_wrongRoll 22 = .ok (.iconst 0, 1) := by decide +kernel
theorem dX12_wrongRoll_23 : decode cX12_wrongRoll 23 = .ok (.istore 4, 2) := by decide +kernel
theorem dX12_wrongRoll_25 : decode cX12_wrongRoll 25 = .ok (.iload 4, 2) := by decide +kernel
theorem dX12_wrongRoll_27 : decode cX12_wrongRoll 27 = .ok (.bipush 16, 2) := by decide +kernel
theorem dX12_wrongRoll_29 : decode cX12_wrongRoll 29 = .ok (.if_icmp .ge 202, 3) := by decide +kernel
theorem dX12_wrongRoll_32 : decode cX12_wrongRoll 32 = .ok (.iconst 3, 1) := by decide +kernel
theorem dX12_wrongRoll_33 : decode cX12_wrongRoll 33 = .ok (.iload 4, 2) := by decide +kernel
theorem dX12_wrongRoll_35 : decode cX12_wrongRoll 35 = .ok (.imul, 1) := by decide +kernel
theorem dX12_wrongRoll_36 : decode cX12_wrongRoll 36 = .ok (.aload_n 0, 1) := by decide +kernel
theorem dX12_wrongRoll_37 : decode cX12_wrongRoll 37 = .ok (.getfield 108, 3) := by decide +kernel
theorem dX12_wrongRoll_40 : decode cX12_wrongRoll 40 = .ok (.iload_n 1, 1) := by decide +kernel
theorem dX12_wrongRoll_41 : decode cX12_wrongRoll 41 = .ok (.iaload, 1) := by decide +kernel
theorem dX12_wrongRoll_42 : decode cX12_wrongRoll 42 = .ok (.if_icmp .ge 189, 3) := by decide +kernel
theorem dX12_wrongRoll_45 : decode cX12_wrongRoll 45 = .ok (.iconst 3, 1) := by decide +kernel
theorem dX12_wrongRoll_46 : decode cX12_wrongRoll 46 = .ok (.iload 4, 2) := by decide +kernel
theorem dX12_wrongRoll_48 : decode cX12_wrongRoll 48 = .ok (.imul, 1) := by decide +kernel
theorem dX12_wrongRoll_49 : decode cX12_wrongRoll 49 = .ok (.iconst 2, 1) := by decide +kernel
theorem dX12_wrongRoll_50 : decode cX12_wrongRoll 50 = .ok (.iadd, 1) := by decide +kernel
theorem dX12_wrongRoll_51 : decode cX12_wrongRoll 51 = .ok (.aload_n 0, 1) := by decide +kernel
theorem dX12_wrongRoll_52 : decode cX12_wrongRoll 52 = .ok (.getfield 108, 3) := by decide +kernel
theorem dX12_wrongRoll_55 : decode cX12_wrongRoll 55 = .ok (.iload_n 1, 1) := by decide +kernel
theorem dX12_wrongRoll_56 : decode cX12_wrongRoll 56 = .ok (.iaload, 1) := by decide +kernel
theorem dX12_wrongRoll_57 : decode cX12_wrongRoll 57 = .ok (.if_icmp .lt 6, 3) := by decide +kernel
theorem dX12_wrongRoll_60 : decode cX12_wrongRoll 60 = .ok (.iload 4, 2) := by decide +kernel
theorem dX12_wrongRoll_62 : decode cX12_wrongRoll 62 = .ok (.ireturn, 1) := by decide +kernel
theorem dX12_wrongRoll_63 : decode cX12_wrongRoll 63 = .ok (.aload_n 0, 1) := by decide +kernel
theorem dX12_wrongRoll_64 : decode cX12_wrongRoll 64 = .ok (.iload_n 1, 1) := by decide +kernel
theorem dX12_wrongRoll_65 : decode cX12_wrongRoll 65 = .ok (.iconst 3, 1) := by decide +kernel
theorem dX12_wrongRoll_66 : decode cX12_wrongRoll 66 = .ok (.iload 4, 2) := by decide +kernel
theorem dX12_wrongRoll_68 : decode cX12_wrongRoll 68 = .ok (.imul, 1) := by decide +kernel
theorem dX12_wrongRoll_69 : decode cX12_wrongRoll 69 = .ok (.invokevirtual 267, 3) := by decide +kernel
theorem dX12_wrongRoll_72 : decode cX12_wrongRoll 72 = .ok (.istore 5, 2) := by decide +kernel
theorem dX12_wrongRoll_74 : decode cX12_wrongRoll 74 = .ok (.aload_n 0, 1) := by decide +kernel
theorem dX12_wrongRoll_75 : decode cX12_wrongRoll 75 = .ok (.iload_n 1, 1) := by decide +kernel
theorem dX12_wrongRoll_76 : decode cX12_wrongRoll 76 = .ok (.iconst 3, 1) := by decide +kernel
theorem dX12_wrongRoll_77 : decode cX12_wrongRoll 77 = .ok (.iload 4, 2) := by decide +kernel
theorem dX12_wrongRoll_79 : decode cX12_wrongRoll 79 = .ok (.imul, 1) := by decide +kernel
theorem dX12_wrongRoll_80 : decode cX12_wrongRoll 80 = .ok (.iconst 1, 1) := by decide +kernel
theorem dX12_wrongRoll_81 : decode cX12_wrongRoll 81 = .ok (.iadd, 1) := by decide +kernel
theorem dX12_wrongRoll_82 : decode cX12_wrongRoll 82 = .ok (.invokevirtual 267, 3) := by decide +kernel
theorem dX12_wrongRoll_85 : decode cX12_wrongRoll 85 = .ok (.istore 6, 2) := by decide +kernel
theorem dX12_wrongRoll_87 : decode cX12_wrongRoll 87 = .ok (.aload_n 0, 1) := by decide +kernel
theorem dX12_wrongRoll_88 : decode cX12_wrongRoll 88 = .ok (.iload_n 1, 1) := by decide +kernel
theorem dX12_wrongRoll_89 : decode cX12_wrongRoll 89 = .ok (.iconst 3, 1) := by decide +kernel
theorem dX12_wrongRoll_90 : decode cX12_wrongRoll 90 = .ok (.iload 4, 2) := by decide +kernel
theorem dX12_wrongRoll_92 : decode cX12_wrongRoll 92 = .ok (.imul, 1) := by decide +kernel
theorem dX12_wrongRoll_93 : decode cX12_wrongRoll 93 = .ok (.iconst 2, 1) := by decide +kernel
theorem dX12_wrongRoll_94 : decode cX12_wrongRoll 94 = .ok (.iadd, 1) := by decide +kernel
theorem dX12_wrongRoll_95 : decode cX12_wrongRoll 95 = .ok (.invokevirtual 267, 3) := by decide +kernel
theorem dX12_wrongRoll_98 : decode cX12_wrongRoll 98 = .ok (.istore 7, 2) := by decide +kernel
theorem dX12_wrongRoll_100 : decode cX12_wrongRoll 100 = .ok (.iload 7, 2) := by decide +kernel
theorem dX12_wrongRoll_102 : decode cX12_wrongRoll 102 = .ok (.iconst (-1), 1) := by decide +kernel
theorem dX12_wrongRoll_103 : decode cX12_wrongRoll 103 = .ok (.iconst 1, 1) := by decide +kernel
theorem dX12_wrongRoll_104 : decode cX12_wrongRoll 104 = .ok (.invokestatic 125, 3) := by decide +kernel
theorem dX12_wrongRoll_107 : decode cX12_wrongRoll 107 = .ok (.ifCond .eq 14, 3) := by decide +kernel
theorem dX12_wrongRoll_110 : decode cX12_wrongRoll 110 = .ok (.aload_n 0, 1) := by decide +kernel
theorem dX12_wrongRoll_111 : decode cX12_wrongRoll 111 = .ok (.iload 5, 2) := by decide +kernel
theorem dX12_wrongRoll_113 : decode cX12_wrongRoll 113 = .ok (.iload 6, 2) := by decide +kernel
theorem dX12_wrongRoll_115 : decode cX12_wrongRoll 115 = .ok (.invokevirtual 270, 3) := by decide +kernel
theorem dX12_wrongRoll_118 : decode cX12_wrongRoll 118 = .ok (.ifCond .ne 6, 3) := by decide +kernel
theorem dX12_wrongRoll_121 : decode cX12_wrongRoll 121 = .ok (.iload 4, 2) := by decide +kernel
theorem dX12_wrongRoll_123 : decode cX12_wrongRoll 123 = .ok (.ireturn, 1) := by decide +kernel
theorem dX12_wrongRoll_124 : decode cX12_wrongRoll 124 = .ok (.aload_n 0, 1) := by decide +kernel
theorem dX12_wrongRoll_125 : decode cX12_wrongRoll 125 = .ok (.iload 5, 2) := by decide +kernel
theorem dX12_wrongRoll_127 : decode cX12_wrongRoll 127 = .ok (.iload 6, 2) := by decide +kernel
theorem dX12_wrongRoll_129 : decode cX12_wrongRoll 129 = .ok (.invokevirtual 260, 3) := by decide +kernel
theorem dX12_wrongRoll_132 : decode cX12_wrongRoll 132 = .ok (.istore 8, 2) := by decide +kernel
theorem dX12_wrongRoll_134 : decode cX12_wrongRoll 134 = .ok (.iload 7, 2) := by decide +kernel
theorem dX12_wrongRoll_136 : decode cX12_wrongRoll 136 = .ok (.ifCond .ge 34, 3) := by decide +kernel
theorem dX12_wrongRoll_139 : decode cX12_wrongRoll 139 = .ok (.iload_n 2, 1) := by decide +kernel
theorem dX12_wrongRoll_140 : decode cX12_wrongRoll 140 = .ok (.ifCond .ge 20, 3) := by decide +kernel
theorem dX12_wrongRoll_143 : decode cX12_wrongRoll 143 = .ok (.iconst 2, 1) := by decide +kernel
theorem dX12_wrongRoll_144 : decode cX12_wrongRoll 144 = .ok (.iload 8, 2) := by decide +kernel
theorem dX12_wrongRoll_146 : decode cX12_wrongRoll 146 = .ok (.imul, 1) := by decide +kernel
theorem dX12_wrongRoll_147 : decode cX12_wrongRoll 147 = .ok (.bipush 12, 2) := by decide +kernel
theorem dX12_wrongRoll_149 : decode cX12_wrongRoll 149 = .ok (.if_icmp .lt 7, 3) := by decide +kernel
theorem dX12_wrongRoll_152 : decode cX12_wrongRoll 152 = .ok (.iconst 1, 1) := by decide +kernel
theorem dX12_wrongRoll_153 : decode cX12_wrongRoll 153 = .ok (.goto 12, 3) := by decide +kernel
theorem dX12_wrongRoll_156 : decode cX12_wrongRoll 156 = .ok (.iconst 0, 1) := by decide +kernel
theorem dX12_wrongRoll_157 : decode cX12_wrongRoll 157 = .ok (.goto 8, 3) := by decide +kernel
theorem dX12_wrongRoll_160 : decode cX12_wrongRoll 160 = .ok (.iload_n 2, 1) := by decide +kernel
theorem dX12_wrongRoll_161 : decode cX12_wrongRoll 161 = .ok (.iload_n 3, 1) := by decide +kernel
theorem dX12_wrongRoll_162 : decode cX12_wrongRoll 162 = .ok (.ishr, 1) := by decide +kernel
theorem dX12_wrongRoll_163 : decode cX12_wrongRoll 163 = .ok (.iconst 1, 1) := by decide +kernel
theorem dX12_wrongRoll_164 : decode cX12_wrongRoll 164 = .ok (.iand, 1) := by decide +kernel
theorem dX12_wrongRoll_165 : decode cX12_wrongRoll 165 = .ok (.istore 7, 2) := by decide +kernel
theorem dX12_wrongRoll_167 : decode cX12_wrongRoll 167 = .ok (.iinc 3 1, 3) := by decide +kernel
theorem dX12_wrongRoll_170 : decode cX12_wrongRoll 170 = .ok (.iload 8, 2) := by decide +kernel
theorem dX12_wrongRoll_172 : decode cX12_wrongRoll 172 = .ok (.iload 7, 2) := by decide +kernel
theorem dX12_wrongRoll_174 : decode cX12_wrongRoll 174 = .ok (.invokestatic 273, 3) := by decide +kernel
theorem dX12_wrongRoll_177 : decode cX12_wrongRoll 177 = .ok (.istore 9, 2) := by decide +kernel
theorem dX12_wrongRoll_179 : decode cX12_wrongRoll 179 = .ok (.iload 9, 2) := by decide +kernel
theorem dX12_wrongRoll_181 : decode cX12_wrongRoll 181 = .ok (.ifCond .ne 6, 3) := by decide +kernel
theorem dX12_wrongRoll_184 : decode cX12_wrongRoll 184 = .ok (.iload 4, 2) := by decide +kernel
theorem dX12_wrongRoll_186 : decode cX12_wrongRoll 186 = .ok (.ireturn, 1) := by decide +kernel
theorem dX12_wrongRoll_187 : decode cX12_wrongRoll 187 = .ok (.aload_n 0, 1) := by decide +kernel
theorem dX12_wrongRoll_188 : decode cX12_wrongRoll 188 = .ok (.getfield 352, 3) := by decide +kernel
theorem dX12_wrongRoll_191 : decode cX12_wrongRoll 191 = .ok (.ifCond .ge 18, 3) := by decide +kernel
theorem dX12_wrongRoll_194 : decode cX12_wrongRoll 194 = .ok (.iconst 2, 1) := by decide +kernel
theorem dX12_wrongRoll_195 : decode cX12_wrongRoll 195 = .ok (.iload 9, 2) := by decide +kernel
theorem dX12_wrongRoll_197 : decode cX12_wrongRoll 197 = .ok (.imul, 1) := by decide +kernel
theorem dX12_wrongRoll_198 : decode cX12_wrongRoll 198 = .ok (.bipush 12, 2) := by decide +kernel
theorem dX12_wrongRoll_200 : decode cX12_wrongRoll 200 = .ok (.if_icmp .ge 9, 3) := by decide +kernel
theorem dX12_wrongRoll_203 : decode cX12_wrongRoll 203 = .ok (.aload_n 0, 1) := by decide +kernel
theorem dX12_wrongRoll_204 : decode cX12_wrongRoll 204 = .ok (.iload 4, 2) := by decide +kernel
theorem dX12_wrongRoll_206 : decode cX12_wrongRoll 206 = .ok (.putfield 352, 3) := by decide +kernel
theorem dX12_wrongRoll_209 : decode cX12_wrongRoll 209 = .ok (.aload_n 0, 1) := by decide +kernel
theorem dX12_wrongRoll_210 : decode cX12_wrongRoll 210 = .ok (.iload 9, 2) := by decide +kernel
theorem dX12_wrongRoll_212 : decode cX12_wrongRoll 212 = .ok (.invokevirtual 355, 3) := by decide +kernel
theorem dX12_wrongRoll_215 : decode cX12_wrongRoll 215 = .ok (.aload_n 0, 1) := by decide +kernel
theorem dX12_wrongRoll_216 : decode cX12_wrongRoll 216 = .ok (.iload 5, 2) := by decide +kernel
theorem dX12_wrongRoll_218 : decode cX12_wrongRoll 218 = .ok (.iload 6, 2) := by decide +kernel
theorem dX12_wrongRoll_220 : decode cX12_wrongRoll 220 = .ok (.iload 7, 2) := by decide +kernel
theorem dX12_wrongRoll_222 : decode cX12_wrongRoll 222 = .ok (.invokevirtual 278, 3) := by decide +kernel
theorem dX12_wrongRoll_225 : decode cX12_wrongRoll 225 = .ok (.iinc 4 1, 3) := by decide +kernel
theorem dX12_wrongRoll_228 : decode cX12_wrongRoll 228 = .ok (.goto (-203), 3) := by decide +kernel
theorem dX12_wrongRoll_231 : decode cX12_wrongRoll 231 = .ok (.bipush (-2), 2) := by decide +kernel
theorem dX12_wrongRoll_233 : decode cX12_wrongRoll 233 = .ok (.ireturn, 1) := by decide +kernel
theorem dX12_judge_0 : decode cX12_judge 0 = .ok (.iload_n 1, 1) := by decide +kernel
theorem dX12_judge_1 : decode cX12_judge 1 = .ok (.invokestatic 137, 3) := by decide +kernel
theorem dX12_judge_4 : decode cX12_judge 4 = .ok (.ifCond .ne 5, 3) := by decide +kernel
theorem dX12_judge_7 : decode cX12_judge 7 = .ok (.iconst (-1), 1) := by decide +kernel
theorem dX12_judge_8 : decode cX12_judge 8 = .ok (.ireturn, 1) := by decide +kernel
theorem dX12_judge_9 : decode cX12_judge 9 = .ok (.aload_n 0, 1) := by decide +kernel
theorem dX12_judge_10 : decode cX12_judge 10 = .ok (.iload_n 1, 1) := by decide +kernel
theorem dX12_judge_11 : decode cX12_judge 11 = .ok (.invokevirtual 281, 3) := by decide +kernel
theorem dX12_judge_14 : decode cX12_judge 14 = .ok (.ifCond .ge 11, 3) := by decide +kernel
theorem dX12_judge_17 : decode cX12_judge 17 = .ok (.aload_n 0, 1) := by decide +kernel
theorem dX12_judge_18 : decode cX12_judge 18 = .ok (.iload_n 1, 1) := by decide +kernel
theorem dX12_judge_19 : decode cX12_judge 19 = .ok (.invokevirtual 281, 3) := by decide +kernel
theorem dX12_judge_22 : decode cX12_judge 22 = .ok (.goto 9, 3) := by decide +kernel
theorem dX12_judge_25 : decode cX12_judge 25 = .ok (.aload_n 0, 1) := by decide +kernel
theorem dX12_judge_26 : decode cX12_judge 26 = .ok (.iload_n 1, 1) := by decide +kernel
theorem dX12_judge_27 : decode cX12_judge 27 = .ok (.iconst (-1), 1) := by decide +kernel
theorem dX12_judge_28 : decode cX12_judge 28 = .ok (.invokevirtual 358, 3) := by decide +kernel
theorem dX12_judge_31 : decode cX12_judge 31 = .ok (.ireturn, 1) := by decide +kernel
theorem dX12_findWays_0 : decode cX12_findWays 0 = .ok (.aload_n 0, 1) := by decide +kernel
theorem dX12_findWays_1 : decode cX12_findWays 1 = .ok (.iconst 0, 1) := by decide +kernel
theorem dX12_findWays_2 : decode cX12_findWays 2 = .ok (.putfield 361, 3) := by decide +kernel
theorem dX12_findWays_5 : decode cX12_findWays 5 = .ok (.aload_n 0, 1) := by decide +kernel
theorem dX12_findWays_6 : decode cX12_findWays 6 = .ok (.bipush (-2), 2) := by decide +kernel
theorem dX12_findWays_8 : decode cX12_findWays 8 = .ok (.putfield 364, 3) := by decide +kernel
theorem dX12_findWays_11 : decode cX12_findWays 11 = .ok (.lconst 0, 1) := by decide +kernel
theorem dX12_findWays_12 : decode cX12_findWays 12 = .ok (.lstore_n 2, 1) := by decide +kernel
theorem dX12_findWays_13 : decode cX12_findWays 13 = .ok (.lconst 0, 1) := by decide +kernel
theorem dX12_findWays_14 : decode cX12_findWays 14 = .ok (.lstore 4, 2) := by decide +kernel
theorem dX12_findWays_16 : decode cX12_findWays 16 = .ok (.iconst 0, 1) := by decide +kernel
theorem dX12_findWays_17 : decode cX12_findWays 17 = .ok (.istore 6, 2) := by decide +kernel
theorem dX12_findWays_19 : decode cX12_findWays 19 = .ok (.iload 6, 2) := by decide +kernel
theorem dX12_findWays_21 : decode cX12_findWays 21 = .ok (.iconst 1, 1) := by decide +kernel
theorem dX12_findWays_22 : decode cX12_findWays 22 = .ok (.aload_n 0, 1) := by decide +kernel
theorem dX12_findWays_23 : decode cX12_findWays 23 = .ok (.iload_n 1, 1) := by decide +kernel
theorem dX12_findWays_24 : decode cX12_findWays 24 = .ok (.invokevirtual 367, 3) := by decide +kernel
theorem dX12_findWays_27 : decode cX12_findWays 27 = .ok (.ishl, 1) := by decide +kernel
theorem dX12_findWays_28 : decode cX12_findWays 28 = .ok (.if_icmp .ge 80, 3) := by decide +kernel
theorem dX12_findWays_31 : decode cX12_findWays 31 = .ok (.aload_n 0, 1) := by decide +kernel
theorem dX12_findWays_32 : decode cX12_findWays 32 = .ok (.iload_n 1, 1) := by decide +kernel
theorem dX12_findWays_33 : decode cX12_findWays 33 = .ok (.iload 6, 2) := by decide +kernel
theorem dX12_findWays_35 : decode cX12_findWays 35 = .ok (.invokevirtual 358, 3) := by decide +kernel
theorem dX12_findWays_38 : decode cX12_findWays 38 = .ok (.ifCond .lt 6, 3) := by decide +kernel
theorem dX12_findWays_41 : decode cX12_findWays 41 = .ok (.goto 61, 3) := by decide +kernel
theorem dX12_findWays_44 : decode cX12_findWays 44 = .ok (.aload_n 0, 1) := by decide +kernel
theorem dX12_findWays_45 : decode cX12_findWays 45 = .ok (.dup, 1) := by decide +kernel
theorem dX12_findWays_46 : decode cX12_findWays 46 = .ok (.getfield 361, 3) := by decide +kernel
theorem dX12_findWays_49 : decode cX12_findWays 49 = .ok (.iconst 1, 1) := by decide +kernel
theorem dX12_findWays_50 : decode cX12_findWays 50 = .ok (.iadd, 1) := by decide +kernel
theorem dX12_findWays_51 : decode cX12_findWays 51 = .ok (.putfield 361, 3) := by decide +kernel
theorem dX12_findWays_54 : decode cX12_findWays 54 = .ok (.aload_n 0, 1) := by decide +kernel
theorem dX12_findWays_55 : decode cX12_findWays 55 = .ok (.getfield 347, 3) := by decide +kernel
theorem dX12_findWays_58 : decode cX12_findWays 58 = .ok (.lload_n 2, 1) := by decide +kernel
theorem dX12_findWays_59 : decode cX12_findWays 59 = .ok (.lcmp, 1) := by decide +kernel
theorem dX12_findWays_60 : decode cX12_findWays 60 = .ok (.ifCond .lt 42, 3) := by decide +kernel
theorem dX12_findWays_63 : decode cX12_findWays 63 = .ok (.aload_n 0, 1) := by decide +kernel
theorem dX12_findWays_64 : decode cX12_findWays 64 = .ok (.getfield 347, 3) := by decide +kernel
theorem dX12_findWays_67 : decode cX12_findWays 67 = .ok (.lload_n 2, 1) := by decide +kernel
theorem dX12_findWays_68 : decode cX12_findWays 68 = .ok (.lcmp, 1) := by decide +kernel
theorem dX12_findWays_69 : decode cX12_findWays 69 = .ok (.ifCond .ne 16, 3) := by decide +kernel
theorem dX12_findWays_72 : decode cX12_findWays 72 = .ok (.aload_n 0, 1) := by decide +kernel
theorem dX12_findWays_73 : decode cX12_findWays 73 = .ok (.getfield 343, 3) := by decide +kernel
theorem dX12_findWays_76 : decode cX12_findWays 76 = .ok (.lload 4, 2) := by decide +kernel
theorem dX12_findWays_78 : decode cX12_findWays 78 = .ok (.lcmp, 1) := by decide +kernel
theorem dX12_findWays_79 : decode cX12_findWays 79 = .ok (.ifCond .gt 6, 3) := by decide +kernel
theorem dX12_findWays_82 : decode cX12_findWays 82 = .ok (.goto 20, 3) := by decide +kernel
theorem dX12_findWays_85 : decode cX12_findWays 85 = .ok (.aload_n 0, 1) := by decide +kernel
theorem dX12_findWays_86 : decode cX12_findWays 86 = .ok (.iload 6, 2) := by decide +kernel
theorem dX12_findWays_88 : decode cX12_findWays 88 = .ok (.putfield 364, 3) := by decide +kernel
theorem dX12_findWays_91 : decode cX12_findWays 91 = .ok (.aload_n 0, 1) := by decide +kernel
theorem dX12_findWays_92 : decode cX12_findWays 92 = .ok (.getfield 347, 3) := by decide +kernel
theorem dX12_findWays_95 : decode cX12_findWays 95 = .ok (.lstore_n 2, 1) := by decide +kernel
theorem dX12_findWays_96 : decode cX12_findWays 96 = .ok (.aload_n 0, 1) := by decide +kernel
theorem dX12_findWays_97 : decode cX12_findWays 97 = .ok (.getfield 343, 3) := by decide +kernel
theorem dX12_findWays_100 : decode cX12_findWays 100 = .ok (.lstore 4, 2) := by decide +kernel
theorem dX12_findWays_102 : decode cX12_findWays 102 = .ok (.iinc 6 1, 3) := by decide +kernel
theorem dX12_findWays_105 : decode cX12_findWays 105 = .ok (.goto (-86), 3) := by decide +kernel
theorem dX12_findWays_108 : decode cX12_findWays 108 = .ok (.return_, 1) := by decide +kernel
theorem dX12_roll_0 : decode cX12_roll 0 = .ok (.iload_n 1, 1) := by decide +kernel
theorem dX12_roll_1 : decode cX12_roll 1 = .ok (.invokestatic 137, 3) := by decide +kernel
theorem dX12_roll_4 : decode cX12_roll 4 = .ok (.ifCond .eq 12, 3) := by decide +kernel
theorem dX12_roll_7 : decode cX12_roll 7 = .ok (.iload_n 2, 1) := by decide +kernel
theorem dX12_roll_8 : decode cX12_roll 8 = .ok (.iconst 0, 1) := by decide +kernel
theorem dX12_roll_9 : decode cX12_roll 9 = .ok (.iconst 1, 1) := by decide +kernel
theorem dX12_roll_10 : decode cX12_roll 10 = .ok (.invokestatic 125, 3) := by decide +kernel
theorem dX12_roll_13 : decode cX12_roll 13 = .ok (.ifCond .ne 5, 3) := by decide +kernel
theorem dX12_roll_16 : decode cX12_roll 16 = .ok (.iconst (-1), 1) := by decide +kernel
theorem dX12_roll_17 : decode cX12_roll 17 = .ok (.ireturn, 1) := by decide +kernel
theorem dX12_roll_18 : decode cX12_roll 18 = .ok (.aload_n 0, 1) := by decide +kernel
theorem dX12_roll_19 : decode cX12_roll 19 = .ok (.iload_n 1, 1) := by decide +kernel
theorem dX12_roll_20 : decode cX12_roll 20 = .ok (.invokevirtual 281, 3) := by decide +kernel
theorem dX12_roll_23 : decode cX12_roll 23 = .ok (.ifCond .ge 9, 3) := by decide +kernel
theorem dX12_roll_26 : decode cX12_roll 26 = .ok (.aload_n 0, 1) := by decide +kernel
theorem dX12_roll_27 : decode cX12_roll 27 = .ok (.iload_n 1, 1) := by decide +kernel
theorem dX12_roll_28 : decode cX12_roll 28 = .ok (.invokevirtual 281, 3) := by decide +kernel
theorem dX12_roll_31 : decode cX12_roll 31 = .ok (.ireturn, 1) := by decide +kernel
theorem dX12_roll_32 : decode cX12_roll 32 = .ok (.aload_n 0, 1) := by decide +kernel
theorem dX12_roll_33 : decode cX12_roll 33 = .ok (.iload_n 1, 1) := by decide +kernel
theorem dX12_roll_34 : decode cX12_roll 34 = .ok (.invokevirtual 367, 3) := by decide +kernel
theorem dX12_roll_37 : decode cX12_roll 37 = .ok (.bipush 8, 2) := by decide +kernel
theorem dX12_roll_39 : decode cX12_roll 39 = .ok (.if_icmp .le 6, 3) := by decide +kernel
theorem dX12_roll_42 : decode cX12_roll 42 = .ok (.bipush (-5), 2) := by decide +kernel
theorem dX12_roll_44 : decode cX12_roll 44 = .ok (.ireturn, 1) := by decide +kernel
theorem dX12_roll_45 : decode cX12_roll 45 = .ok (.aload_n 0, 1) := by decide +kernel
theorem dX12_roll_46 : decode cX12_roll 46 = .ok (.iload_n 1, 1) := by decide +kernel
theorem dX12_roll_47 : decode cX12_roll 47 = .ok (.invokevirtual 370, 3) := by decide +kernel
theorem dX12_roll_50 : decode cX12_roll 50 = .ok (.iload_n 2, 1) := by decide +kernel
theorem dX12_roll_51 : decode cX12_roll 51 = .ok (.ifCond .ne 10, 3) := by decide +kernel
theorem dX12_roll_54 : decode cX12_roll 54 = .ok (.aload_n 0, 1) := by decide +kernel
theorem dX12_roll_55 : decode cX12_roll 55 = .ok (.getfield 361, 3) := by decide +kernel
theorem dX12_roll_58 : decode cX12_roll 58 = .ok (.goto 7, 3) := by decide +kernel
theorem dX12_roll_61 : decode cX12_roll 61 = .ok (.aload_n 0, 1) := by decide +kernel
theorem dX12_roll_62 : decode cX12_roll 62 = .ok (.getfield 364, 3) := by decide +kernel
theorem dX12_roll_65 : decode cX12_roll 65 = .ok (.ireturn, 1) := by decide +kernel
theorem dX12_sold_0 : decode cX12_sold 0 = .ok (.iload_n 1, 1) := by decide +kernel
theorem dX12_sold_1 : decode cX12_sold 1 = .ok (.invokestatic 137, 3) := by decide +kernel
theorem dX12_sold_4 : decode cX12_sold 4 = .ok (.ifCond .ne 5, 3) := by decide +kernel
theorem dX12_sold_7 : decode cX12_sold 7 = .ok (.iconst (-1), 1) := by decide +kernel
theorem dX12_sold_8 : decode cX12_sold 8 = .ok (.ireturn, 1) := by decide +kernel
theorem dX12_sold_9 : decode cX12_sold 9 = .ok (.aload_n 0, 1) := by decide +kernel
theorem dX12_sold_10 : decode cX12_sold 10 = .ok (.iload_n 1, 1) := by decide +kernel
theorem dX12_sold_11 : decode cX12_sold 11 = .ok (.invokevirtual 281, 3) := by decide +kernel
theorem dX12_sold_14 : decode cX12_sold 14 = .ok (.ifCond .ge 9, 3) := by decide +kernel
theorem dX12_sold_17 : decode cX12_sold 17 = .ok (.aload_n 0, 1) := by decide +kernel
theorem dX12_sold_18 : decode cX12_sold 18 = .ok (.iload_n 1, 1) := by decide +kernel
theorem dX12_sold_19 : decode cX12_sold 19 = .ok (.invokevirtual 281, 3) := by decide +kernel
theorem dX12_sold_22 : decode cX12_sold 22 = .ok (.ireturn, 1) := by decide +kernel
theorem dX12_sold_23 : decode cX12_sold 23 = .ok (.aload_n 0, 1) := by decide +kernel
theorem dX12_sold_24 : decode cX12_sold 24 = .ok (.iload_n 1, 1) := by decide +kernel
theorem dX12_sold_25 : decode cX12_sold 25 = .ok (.invokevirtual 367, 3) := by decide +kernel
theorem dX12_sold_28 : decode cX12_sold 28 = .ok (.bipush 8, 2) := by decide +kernel
theorem dX12_sold_30 : decode cX12_sold 30 = .ok (.if_icmp .le 6, 3) := by decide +kernel
theorem dX12_sold_33 : decode cX12_sold 33 = .ok (.bipush (-5), 2) := by decide +kernel
theorem dX12_sold_35 : decode cX12_sold 35 = .ok (.ireturn, 1) := by decide +kernel
theorem dX12_sold_36 : decode cX12_sold 36 = .ok (.aload_n 0, 1) := by decide +kernel
theorem dX12_sold_37 : decode cX12_sold 37 = .ok (.iload_n 1, 1) := by decide +kernel
theorem dX12_sold_38 : decode cX12_sold 38 = .ok (.invokevirtual 370, 3) := by decide +kernel
theorem dX12_sold_41 : decode cX12_sold 41 = .ok (.aload_n 0, 1) := by decide +kernel
theorem dX12_sold_42 : decode cX12_sold 42 = .ok (.getfield 361, 3) := by decide +kernel
theorem dX12_sold_45 : decode cX12_sold 45 = .ok (.ifCond .ne 6, 3) := by decide +kernel
theorem dX12_sold_48 : decode cX12_sold 48 = .ok (.bipush (-2), 2) := by decide +kernel
theorem dX12_sold_50 : decode cX12_sold 50 = .ok (.ireturn, 1) := by decide +kernel
theorem dX12_sold_51 : decode cX12_sold 51 = .ok (.aload_n 0, 1) := by decide +kernel
theorem dX12_sold_52 : decode cX12_sold 52 = .ok (.iload_n 1, 1) := by decide +kernel
theorem dX12_sold_53 : decode cX12_sold 53 = .ok (.aload_n 0, 1) := by decide +kernel
theorem dX12_sold_54 : decode cX12_sold 54 = .ok (.getfield 364, 3) := by decide +kernel
theorem dX12_sold_57 : decode cX12_sold 57 = .ok (.invokevirtual 358, 3) := by decide +kernel
theorem dX12_sold_60 : decode cX12_sold 60 = .ok (.pop, 1) := by decide +kernel
theorem dX12_sold_61 : decode cX12_sold 61 = .ok (.aload_n 0, 1) := by decide +kernel
theorem dX12_sold_62 : decode cX12_sold 62 = .ok (.getfield 352, 3) := by decide +kernel
theorem dX12_sold_65 : decode cX12_sold 65 = .ok (.ireturn, 1) := by decide +kernel
theorem dX12_friend_0 : decode cX12_friend 0 = .ok (.aload_n 0, 1) := by decide +kernel
theorem dX12_friend_1 : decode cX12_friend 1 = .ok (.iload_n 1, 1) := by decide +kernel
theorem dX12_friend_2 : decode cX12_friend 2 = .ok (.invokevirtual 254, 3) := by decide +kernel
theorem dX12_friend_5 : decode cX12_friend 5 = .ok (.ifCond .eq 13, 3) := by decide +kernel
theorem dX12_friend_8 : decode cX12_friend 8 = .ok (.iload_n 2, 1) := by decide +kernel
theorem dX12_friend_9 : decode cX12_friend 9 = .ok (.iconst 0, 1) := by decide +kernel
theorem dX12_friend_10 : decode cX12_friend 10 = .ok (.bipush 9, 2) := by decide +kernel
theorem dX12_friend_12 : decode cX12_friend 12 = .ok (.invokestatic 125, 3) := by decide +kernel
theorem dX12_friend_15 : decode cX12_friend 15 = .ok (.ifCond .ne 6, 3) := by decide +kernel
theorem dX12_friend_18 : decode cX12_friend 18 = .ok (.ldc 163, 2) := by decide +kernel
theorem dX12_friend_20 : decode cX12_friend 20 = .ok (.ireturn, 1) := by decide +kernel
theorem dX12_friend_21 : decode cX12_friend 21 = .ok (.aload_n 0, 1) := by decide +kernel
theorem dX12_friend_22 : decode cX12_friend 22 = .ok (.invokevirtual 257, 3) := by decide +kernel
theorem dX12_friend_25 : decode cX12_friend 25 = .ok (.aload_n 0, 1) := by decide +kernel
theorem dX12_friend_26 : decode cX12_friend 26 = .ok (.iload_n 1, 1) := by decide +kernel
theorem dX12_friend_27 : decode cX12_friend 27 = .ok (.bipush 10, 2) := by decide +kernel
theorem dX12_friend_29 : decode cX12_friend 29 = .ok (.idiv, 1) := by decide +kernel
theorem dX12_friend_30 : decode cX12_friend 30 = .ok (.iload_n 1, 1) := by decide +kernel
theorem dX12_friend_31 : decode cX12_friend 31 = .ok (.bipush 10, 2) := by decide +kernel
theorem dX12_friend_33 : decode cX12_friend 33 = .ok (.irem, 1) := by decide +kernel
theorem dX12_friend_34 : decode cX12_friend 34 = .ok (.invokevirtual 260, 3) := by decide +kernel
theorem dX12_friend_37 : decode cX12_friend 37 = .ok (.aload_n 0, 1) := by decide +kernel
theorem dX12_friend_38 : decode cX12_friend 38 = .ok (.iload_n 1, 1) := by decide +kernel
theorem dX12_friend_39 : decode cX12_friend 39 = .ok (.bipush 10, 2) := by decide +kernel
theorem dX12_friend_41 : decode cX12_friend 41 = .ok (.idiv, 1) := by decide +kernel
theorem dX12_friend_42 : decode cX12_friend 42 = .ok (.iload_n 1, 1) := by decide +kernel
theorem dX12_friend_43 : decode cX12_friend 43 = .ok (.bipush 10, 2) := by decide +kernel
theorem dX12_friend_45 : decode cX12_friend 45 = .ok (.irem, 1) := by decide +kernel
theorem dX12_friend_46 : decode cX12_friend 46 = .ok (.iload_n 2, 1) := by decide +kernel
theorem dX12_friend_47 : decode cX12_friend 47 = .ok (.iconst 0, 1) := by decide +kernel
theorem dX12_friend_48 : decode cX12_friend 48 = .ok (.invokevirtual 250, 3) := by decide +kernel
theorem dX12_friend_51 : decode cX12_friend 51 = .ok (.isub, 1) := by decide +kernel
theorem dX12_friend_52 : decode cX12_friend 52 = .ok (.ireturn, 1) := by decide +kernel
theorem dX12_drawn_0 : decode cX12_drawn 0 = .ok (.iload_n 2, 1) := by decide +kernel
theorem dX12_drawn_1 : decode cX12_drawn 1 = .ok (.ifCond .lt 52, 3) := by decide +kernel
theorem dX12_drawn_4 : decode cX12_drawn 4 = .ok (.iload_n 2, 1) := by decide +kernel
theorem dX12_drawn_5 : decode cX12_drawn 5 = .ok (.bipush 100, 2) := by decide +kernel
theorem dX12_drawn_7 : decode cX12_drawn 7 = .ok (.idiv, 1) := by decide +kernel
theorem dX12_drawn_8 : decode cX12_drawn 8 = .ok (.iconst 1, 1) := by decide +kernel
theorem dX12_drawn_9 : decode cX12_drawn 9 = .ok (.bipush 30, 2) := by decide +kernel
theorem dX12_drawn_11 : decode cX12_drawn 11 = .ok (.invokestatic 125, 3) := by decide +kernel
theorem dX12_drawn_14 : decode cX12_drawn 14 = .ok (.ifCond .eq 39, 3) := by decide +kernel
theorem dX12_drawn_17 : decode cX12_drawn 17 = .ok (.iload_n 2, 1) := by decide +kernel
theorem dX12_drawn_18 : decode cX12_drawn 18 = .ok (.bipush 100, 2) := by decide +kernel
theorem dX12_drawn_20 : decode cX12_drawn 20 = .ok (.irem, 1) := by decide +kernel
theorem dX12_drawn_21 : decode cX12_drawn 21 = .ok (.iconst 1, 1) := by decide +kernel
theorem dX12_drawn_22 : decode cX12_drawn 22 = .ok (.bipush 60, 2) := by decide +kernel
theorem dX12_drawn_24 : decode cX12_drawn 24 = .ok (.invokestatic 125, 3) := by decide +kernel
theorem dX12_drawn_27 : decode cX12_drawn 27 = .ok (.ifCond .eq 26, 3) := by decide +kernel
theorem dX12_drawn_30 : decode cX12_drawn 30 = .ok (.iload_n 3, 1) := by decide +kernel
theorem dX12_drawn_31 : decode cX12_drawn 31 = .ok (.iconst 0, 1) := by decide +kernel
theorem dX12_drawn_32 : decode cX12_drawn 32 = .ok (.iconst 2, 1) := by decide +kernel
theorem dX12_drawn_33 : decode cX12_drawn 33 = .ok (.invokestatic 125, 3) := by decide +kernel
theorem dX12_drawn_36 : decode cX12_drawn 36 = .ok (.ifCond .eq 17, 3) := by decide +kernel
theorem dX12_drawn_39 : decode cX12_drawn 39 = .ok (.iload_n 3, 1) := by decide +kernel
theorem dX12_drawn_40 : decode cX12_drawn 40 = .ok (.iconst 1, 1) := by decide +kernel
theorem dX12_drawn_41 : decode cX12_drawn 41 = .ok (.if_icmp .ne 14, 3) := by decide +kernel
theorem dX12_drawn_44 : decode cX12_drawn 44 = .ok (.aload_n 0, 1) := by decide +kernel
theorem dX12_drawn_45 : decode cX12_drawn 45 = .ok (.iload 4, 2) := by decide +kernel
theorem dX12_drawn_47 : decode cX12_drawn 47 = .ok (.invokevirtual 129, 3) := by decide +kernel
theorem dX12_drawn_50 : decode cX12_drawn 50 = .ok (.ifCond .ne 5, 3) := by decide +kernel
theorem dX12_drawn_53 : decode cX12_drawn 53 = .ok (.iconst (-1), 1) := by decide +kernel
theorem dX12_drawn_54 : decode cX12_drawn 54 = .ok (.ireturn, 1) := by decide +kernel
theorem dX12_drawn_55 : decode cX12_drawn 55 = .ok (.aload_n 0, 1) := by decide +kernel
theorem dX12_drawn_56 : decode cX12_drawn 56 = .ok (.getfield 122, 3) := by decide +kernel
theorem dX12_drawn_59 : decode cX12_drawn 59 = .ok (.iconst 2, 1) := by decide +kernel
theorem dX12_drawn_60 : decode cX12_drawn 60 = .ok (.if_icmp .ge 5, 3) := by decide +kernel
theorem dX12_drawn_63 : decode cX12_drawn 63 = .ok (.iconst 0, 1) := by decide +kernel
theorem dX12_drawn_64 : decode cX12_drawn 64 = .ok (.ireturn, 1) := by decide +kernel
theorem dX12_drawn_65 : decode cX12_drawn 65 = .ok (.iload_n 1, 1) := by decide +kernel
theorem dX12_drawn_66 : decode cX12_drawn 66 = .ok (.istore 5, 2) := by decide +kernel
theorem dX12_drawn_68 : decode cX12_drawn 68 = .ok (.iconst 0, 1) := by decide +kernel
theorem dX12_drawn_69 : decode cX12_drawn 69 = .ok (.istore 6, 2) := by decide +kernel
theorem dX12_drawn_71 : decode cX12_drawn 71 = .ok (.iconst 0, 1) := by decide +kernel
theorem dX12_drawn_72 : decode cX12_drawn 72 = .ok (.istore 7, 2) := by decide +kernel
theorem dX12_drawn_74 : decode cX12_drawn 74 = .ok (.iconst 0, 1) := by decide +kernel
theorem dX12_drawn_75 : decode cX12_drawn 75 = .ok (.istore 8, 2) := by decide +kernel
theorem dX12_drawn_77 : decode cX12_drawn 77 = .ok (.iconst 0, 1) := by decide +kernel
theorem dX12_drawn_78 : decode cX12_drawn 78 = .ok (.istore 9, 2) := by decide +kernel
theorem dX12_drawn_80 : decode cX12_drawn 80 = .ok (.iload 9, 2) := by decide +kernel
theorem dX12_drawn_82 : decode cX12_drawn 82 = .ok (.iload_n 2, 1) := by decide +kernel
theorem dX12_drawn_83 : decode cX12_drawn 83 = .ok (.bipush 100, 2) := by decide +kernel
theorem dX12_drawn_85 : decode cX12_drawn 85 = .ok (.idiv, 1) := by decide +kernel
theorem dX12_drawn_86 : decode cX12_drawn 86 = .ok (.if_icmp .ge 155, 3) := by decide +kernel
theorem dX12_drawn_89 : decode cX12_drawn 89 = .ok (.aload_n 0, 1) := by decide +kernel
theorem dX12_drawn_90 : decode cX12_drawn 90 = .ok (.invokevirtual 257, 3) := by decide +kernel
theorem dX12_drawn_93 : decode cX12_drawn 93 = .ok (.iconst 0, 1) := by decide +kernel
theorem dX12_drawn_94 : decode cX12_drawn 94 = .ok (.istore 10, 2) := by decide +kernel
theorem dX12_drawn_96 : decode cX12_drawn 96 = .ok (.iload 10, 2) := by decide +kernel
theorem dX12_drawn_98 : decode cX12_drawn 98 = .ok (.iload_n 2, 1) := by decide +kernel
theorem dX12_drawn_99 : decode cX12_drawn 99 = .ok (.bipush 100, 2) := by decide +kernel
theorem dX12_drawn_101 : decode cX12_drawn 101 = .ok (.irem, 1) := by decide +kernel
theorem dX12_drawn_102 : decode cX12_drawn 102 = .ok (.if_icmp .ge 124, 3) := by decide +kernel
theorem dX12_drawn_105 : decode cX12_drawn 105 = .ok (.iload 5, 2) := by decide +kernel
theorem dX12_drawn_107 : decode cX12_drawn 107 = .ok (.ldc_w 373, 3) := by decide +kernel
theorem dX12_drawn_110 : decode cX12_drawn 110 = .ok (.imul, 1) := by decide +kernel
theorem dX12_drawn_111 : decode cX12_drawn 111 = .ok (.sipush 12345, 3) := by decide +kernel
theorem dX12_drawn_114 : decode cX12_drawn 114 = .ok (.iadd, 1) := by decide +kernel
theorem dX12_drawn_115 : decode cX12_drawn 115 = .ok (.istore 5, 2) := by decide +kernel
theorem dX12_drawn_117 : decode cX12_drawn 117 = .ok (.iload 5, 2) := by decide +kernel
theorem dX12_drawn_119 : decode cX12_drawn 119 = .ok (.iconst 4, 1) := by decide +kernel
theorem dX12_drawn_120 : decode cX12_drawn 120 = .ok (.iushr, 1) := by decide +kernel
theorem dX12_drawn_121 : decode cX12_drawn 121 = .ok (.aload_n 0, 1) := by decide +kernel
theorem dX12_drawn_122 : decode cX12_drawn 122 = .ok (.getfield 122, 3) := by decide +kernel
theorem dX12_drawn_125 : decode cX12_drawn 125 = .ok (.irem, 1) := by decide +kernel
theorem dX12_drawn_126 : decode cX12_drawn 126 = .ok (.istore 11, 2) := by decide +kernel
theorem dX12_drawn_128 : decode cX12_drawn 128 = .ok (.iload 5, 2) := by decide +kernel
theorem dX12_drawn_130 : decode cX12_drawn 130 = .ok (.bipush 12, 2) := by decide +kernel
theorem dX12_drawn_132 : decode cX12_drawn 132 = .ok (.iushr, 1) := by decide +kernel
theorem dX12_drawn_133 : decode cX12_drawn 133 = .ok (.aload_n 0, 1) := by decide +kernel
theorem dX12_drawn_134 : decode cX12_drawn 134 = .ok (.getfield 122, 3) := by decide +kernel
theorem dX12_drawn_137 : decode cX12_drawn 137 = .ok (.iconst 1, 1) := by decide +kernel
theorem dX12_drawn_138 : decode cX12_drawn 138 = .ok (.isub, 1) := by decide +kernel
theorem dX12_drawn_139 : decode cX12_drawn 139 = .ok (.irem, 1) := by decide +kernel
theorem dX12_drawn_140 : decode cX12_drawn 140 = .ok (.istore 12, 2) := by decide +kernel
theorem dX12_drawn_142 : decode cX12_drawn 142 = .ok (.iload 12, 2) := by decide +kernel
theorem dX12_drawn_144 : decode cX12_drawn 144 = .ok (.iload 11, 2) := by decide +kernel
theorem dX12_drawn_146 : decode cX12_drawn 146 = .ok (.if_icmp .lt 6, 3) := by decide +kernel
theorem dX12_drawn_149 : decode cX12_drawn 149 = .ok (.iinc 12 1, 3) := by decide +kernel
theorem dX12_drawn_152 : decode cX12_drawn 152 = .ok (.aload_n 0, 1) := by decide +kernel
theorem dX12_drawn_153 : decode cX12_drawn 153 = .ok (.getfield 62, 3) := by decide +kernel
theorem dX12_drawn_156 : decode cX12_drawn 156 = .ok (.iload 11, 2) := by decide +kernel
theorem dX12_drawn_158 : decode cX12_drawn 158 = .ok (.iaload, 1) := by decide +kernel
theorem dX12_drawn_159 : decode cX12_drawn 159 = .ok (.ifCond .lt 6, 3) := by decide +kernel
theorem dX12_drawn_162 : decode cX12_drawn 162 = .ok (.goto 58, 3) := by decide +kernel
theorem dX12_drawn_165 : decode cX12_drawn 165 = .ok (.iload 5, 2) := by decide +kernel
theorem dX12_drawn_167 : decode cX12_drawn 167 = .ok (.bipush 20, 2) := by decide +kernel
theorem dX12_drawn_169 : decode cX12_drawn 169 = .ok (.iushr, 1) := by decide +kernel
theorem dX12_drawn_170 : decode cX12_drawn 170 = .ok (.bipush 12, 2) := by decide +kernel
theorem dX12_drawn_172 : decode cX12_drawn 172 = .ok (.irem, 1) := by decide +kernel
theorem dX12_drawn_173 : decode cX12_drawn 173 = .ok (.aload_n 0, 1) := by decide +kernel
theorem dX12_drawn_174 : decode cX12_drawn 174 = .ok (.iload 11, 2) := by decide +kernel
theorem dX12_drawn_176 : decode cX12_drawn 176 = .ok (.iload 12, 2) := by decide +kernel
theorem dX12_drawn_178 : decode cX12_drawn 178 = .ok (.invokevirtual 260, 3) := by decide +kernel
theorem dX12_drawn_181 : decode cX12_drawn 181 = .ok (.if_icmp .ge 7, 3) := by decide +kernel
theorem dX12_drawn_184 : decode cX12_drawn 184 = .ok (.iconst 1, 1) := by decide +kernel
theorem dX12_drawn_185 : decode cX12_drawn 185 = .ok (.goto 4, 3) := by decide +kernel
theorem dX12_drawn_188 : decode cX12_drawn 188 = .ok (.iconst 0, 1) := by decide +kernel
theorem dX12_drawn_189 : decode cX12_drawn 189 = .ok (.istore 13, 2) := by decide +kernel
theorem dX12_drawn_191 : decode cX12_drawn 191 = .ok (.iinc 6 1, 3) := by decide +kernel
theorem dX12_drawn_194 : decode cX12_drawn 194 = .ok (.iload 13, 2) := by decide +kernel
theorem dX12_drawn_196 : decode cX12_drawn 196 = .ok (.iconst 1, 1) := by decide +kernel
theorem dX12_drawn_197 : decode cX12_drawn 197 = .ok (.if_icmp .ne 13, 3) := by decide +kernel
theorem dX12_drawn_200 : decode cX12_drawn 200 = .ok (.iload 11, 2) := by decide +kernel
theorem dX12_drawn_202 : decode cX12_drawn 202 = .ok (.iload 4, 2) := by decide +kernel
theorem dX12_drawn_204 : decode cX12_drawn 204 = .ok (.if_icmp .ne 6, 3) := by decide +kernel
theorem dX12_drawn_207 : decode cX12_drawn 207 = .ok (.iinc 7 1, 3) := by decide +kernel
theorem dX12_drawn_210 : decode cX12_drawn 210 = .ok (.aload_n 0, 1) := by decide +kernel
theorem dX12_drawn_211 : decode cX12_drawn 211 = .ok (.iload 11, 2) := by decide +kernel
theorem dX12_drawn_213 : decode cX12_drawn 213 = .ok (.iload 12, 2) := by decide +kernel
theorem dX12_drawn_215 : decode cX12_drawn 215 = .ok (.iload 13, 2) := by decide +kernel
theorem dX12_drawn_217 : decode cX12_drawn 217 = .ok (.invokevirtual 278, 3) := by decide +kernel
theorem dX12_drawn_220 : decode cX12_drawn 220 = .ok (.iinc 10 1, 3) := by decide +kernel
theorem dX12_drawn_223 : decode cX12_drawn 223 = .ok (.goto (-127), 3) := by decide +kernel
theorem dX12_drawn_226 : decode cX12_drawn 226 = .ok (.iload 8, 2) := by decide +kernel
theorem dX12_drawn_228 : decode cX12_drawn 228 = .ok (.aload_n 0, 1) := by decide +kernel
theorem dX12_drawn_229 : decode cX12_drawn 229 = .ok (.invokevirtual 241, 3) := by decide +kernel
theorem dX12_drawn_232 : decode cX12_drawn 232 = .ok (.iadd, 1) := by decide +kernel
theorem dX12_drawn_233 : decode cX12_drawn 233 = .ok (.istore 8, 2) := by decide +kernel
theorem dX12_drawn_235 : decode cX12_drawn 235 = .ok (.iinc 9 1, 3) := by decide +kernel
theorem dX12_drawn_238 : decode cX12_drawn 238 = .ok (.goto (-158), 3) := by decide +kernel
theorem dX12_drawn_241 : decode cX12_drawn 241 = .ok (.iload_n 3, 1) := by decide +kernel
theorem dX12_drawn_242 : decode cX12_drawn 242 = .ok (.ifCond .ne 8, 3) := by decide +kernel
theorem dX12_drawn_245 : decode cX12_drawn 245 = .ok (.iload 6, 2) := by decide +kernel
theorem dX12_drawn_247 : decode cX12_drawn 247 = .ok (.goto 15, 3) := by decide +kernel
theorem dX12_drawn_250 : decode cX12_drawn 250 = .ok (.iload_n 3, 1) := by decide +kernel
theorem dX12_drawn_251 : decode cX12_drawn 251 = .ok (.iconst 1, 1) := by decide +kernel
theorem dX12_drawn_252 : decode cX12_drawn 252 = .ok (.if_icmp .ne 8, 3) := by decide +kernel
theorem dX12_drawn_255 : decode cX12_drawn 255 = .ok (.iload 7, 2) := by decide +kernel
theorem dX12_drawn_257 : decode cX12_drawn 257 = .ok (.goto 5, 3) := by decide +kernel
theorem dX12_drawn_260 : decode cX12_drawn 260 = .ok (.iload 8, 2) := by decide +kernel
theorem dX12_drawn_262 : decode cX12_drawn 262 = .ok (.ireturn, 1) := by decide +kernel
theorem dX12_hold_0 : decode cX12_hold 0 = .ok (.aload_n 0, 1) := by decide +kernel
theorem dX12_hold_1 : decode cX12_hold 1 = .ok (.iload_n 1, 1) := by decide +kernel
theorem dX12_hold_2 : decode cX12_hold 2 = .ok (.invokevirtual 254, 3) := by decide +kernel
theorem dX12_hold_5 : decode cX12_hold 5 = .ok (.ifCond .eq 12, 3) := by decide +kernel
theorem dX12_hold_8 : decode cX12_hold 8 = .ok (.iload_n 2, 1) := by decide +kernel
theorem dX12_hold_9 : decode cX12_hold 9 = .ok (.iconst 0, 1) := by decide +kernel
theorem dX12_hold_10 : decode cX12_hold 10 = .ok (.iconst 1, 1) := by decide +kernel
theorem dX12_hold_11 : decode cX12_hold 11 = .ok (.invokestatic 125, 3) := by decide +kernel
theorem dX12_hold_14 : decode cX12_hold 14 = .ok (.ifCond .ne 5, 3) := by decide +kernel
theorem dX12_hold_17 : decode cX12_hold 17 = .ok (.iconst (-1), 1) := by decide +kernel
theorem dX12_hold_18 : decode cX12_hold 18 = .ok (.ireturn, 1) := by decide +kernel
theorem dX12_hold_19 : decode cX12_hold 19 = .ok (.aload_n 0, 1) := by decide +kernel
theorem dX12_hold_20 : decode cX12_hold 20 = .ok (.invokevirtual 257, 3) := by decide +kernel
theorem dX12_hold_23 : decode cX12_hold 23 = .ok (.iload_n 1, 1) := by decide +kernel
theorem dX12_hold_24 : decode cX12_hold 24 = .ok (.bipush 10, 2) := by decide +kernel
theorem dX12_hold_26 : decode cX12_hold 26 = .ok (.idiv, 1) := by decide +kernel
theorem dX12_hold_27 : decode cX12_hold 27 = .ok (.istore_n 3, 1) := by decide +kernel
theorem dX12_hold_28 : decode cX12_hold 28 = .ok (.iload_n 1, 1) := by decide +kernel
theorem dX12_hold_29 : decode cX12_hold 29 = .ok (.bipush 10, 2) := by decide +kernel
theorem dX12_hold_31 : decode cX12_hold 31 = .ok (.irem, 1) := by decide +kernel
theorem dX12_hold_32 : decode cX12_hold 32 = .ok (.istore 4, 2) := by decide +kernel
theorem dX12_hold_34 : decode cX12_hold 34 = .ok (.aload_n 0, 1) := by decide +kernel
theorem dX12_hold_35 : decode cX12_hold 35 = .ok (.iload_n 3, 1) := by decide +kernel
theorem dX12_hold_36 : decode cX12_hold 36 = .ok (.iload 4, 2) := by decide +kernel
theorem dX12_hold_38 : decode cX12_hold 38 = .ok (.invokevirtual 270, 3) := by decide +kernel
theorem dX12_hold_41 : decode cX12_hold 41 = .ok (.ifCond .ne 6, 3) := by decide +kernel
theorem dX12_hold_44 : decode cX12_hold 44 = .ok (.bipush (-5), 2) := by decide +kernel
theorem dX12_hold_46 : decode cX12_hold 46 = .ok (.ireturn, 1) := by decide +kernel
theorem dX12_hold_47 : decode cX12_hold 47 = .ok (.aload_n 0, 1) := by decide +kernel
theorem dX12_hold_48 : decode cX12_hold 48 = .ok (.iload 4, 2) := by decide +kernel
theorem dX12_hold_50 : decode cX12_hold 50 = .ok (.invokevirtual 247, 3) := by decide +kernel
theorem dX12_hold_53 : decode cX12_hold 53 = .ok (.istore 5, 2) := by decide +kernel
theorem dX12_hold_55 : decode cX12_hold 55 = .ok (.aload_n 0, 1) := by decide +kernel
theorem dX12_hold_56 : decode cX12_hold 56 = .ok (.iload_n 3, 1) := by decide +kernel
theorem dX12_hold_57 : decode cX12_hold 57 = .ok (.iload 4, 2) := by decide +kernel
theorem dX12_hold_59 : decode cX12_hold 59 = .ok (.iload_n 2, 1) := by decide +kernel
theorem dX12_hold_60 : decode cX12_hold 60 = .ok (.invokevirtual 278, 3) := by decide +kernel
theorem dX12_hold_63 : decode cX12_hold 63 = .ok (.iconst 0, 1) := by decide +kernel
theorem dX12_hold_64 : decode cX12_hold 64 = .ok (.istore 6, 2) := by decide +kernel
theorem dX12_hold_66 : decode cX12_hold 66 = .ok (.iload 6, 2) := by decide +kernel
theorem dX12_hold_68 : decode cX12_hold 68 = .ok (.aload_n 0, 1) := by decide +kernel
theorem dX12_hold_69 : decode cX12_hold 69 = .ok (.getfield 122, 3) := by decide +kernel
theorem dX12_hold_72 : decode cX12_hold 72 = .ok (.if_icmp .ge 23, 3) := by decide +kernel
theorem dX12_hold_75 : decode cX12_hold 75 = .ok (.aload_n 0, 1) := by decide +kernel
theorem dX12_hold_76 : decode cX12_hold 76 = .ok (.getfield 65, 3) := by decide +kernel
theorem dX12_hold_79 : decode cX12_hold 79 = .ok (.iload 6, 2) := by decide +kernel
theorem dX12_hold_81 : decode cX12_hold 81 = .ok (.aload_n 0, 1) := by decide +kernel
theorem dX12_hold_82 : decode cX12_hold 82 = .ok (.getfield 62, 3) := by decide +kernel
theorem dX12_hold_85 : decode cX12_hold 85 = .ok (.iload 6, 2) := by decide +kernel
theorem dX12_hold_87 : decode cX12_hold 87 = .ok (.iaload, 1) := by decide +kernel
theorem dX12_hold_88 : decode cX12_hold 88 = .ok (.iastore, 1) := by decide +kernel
theorem dX12_hold_89 : decode cX12_hold 89 = .ok (.iinc 6 1, 3) := by decide +kernel
theorem dX12_hold_92 : decode cX12_hold 92 = .ok (.goto (-26), 3) := by decide +kernel
theorem dX12_hold_95 : decode cX12_hold 95 = .ok (.aload_n 0, 1) := by decide +kernel
theorem dX12_hold_96 : decode cX12_hold 96 = .ok (.dup, 1) := by decide +kernel
theorem dX12_hold_97 : decode cX12_hold 97 = .ok (.getfield 235, 3) := by decide +kernel
theorem dX12_hold_100 : decode cX12_hold 100 = .ok (.iconst 1, 1) := by decide +kernel
theorem dX12_hold_101 : decode cX12_hold 101 = .ok (.iadd, 1) := by decide +kernel
theorem dX12_hold_102 : decode cX12_hold 102 = .ok (.putfield 235, 3) := by decide +kernel
theorem dX12_hold_105 : decode cX12_hold 105 = .ok (.aload_n 0, 1) := by decide +kernel
theorem dX12_hold_106 : decode cX12_hold 106 = .ok (.getfield 90, 3) := by decide +kernel
theorem dX12_hold_109 : decode cX12_hold 109 = .ok (.iconst 0, 1) := by decide +kernel
theorem dX12_hold_110 : decode cX12_hold 110 = .ok (.dup2, 1) := by decide +kernel
theorem dX12_hold_111 : decode cX12_hold 111 = .ok (.iaload, 1) := by decide +kernel
theorem dX12_hold_112 : decode cX12_hold 112 = .ok (.iconst 1, 1) := by decide +kernel
theorem dX12_hold_113 : decode cX12_hold 113 = .ok (.iadd, 1) := by decide +kernel
theorem dX12_hold_114 : decode cX12_hold 114 = .ok (.iastore, 1) := by decide +kernel
theorem dX12_hold_115 : decode cX12_hold 115 = .ok (.aload_n 0, 1) := by decide +kernel
theorem dX12_hold_116 : decode cX12_hold 116 = .ok (.getfield 90, 3) := by decide +kernel
theorem dX12_hold_119 : decode cX12_hold 119 = .ok (.iconst 1, 1) := by decide +kernel
theorem dX12_hold_120 : decode cX12_hold 120 = .ok (.dup2, 1) := by decide +kernel
theorem dX12_hold_121 : decode cX12_hold 121 = .ok (.iaload, 1) := by decide +kernel
theorem dX12_hold_122 : decode cX12_hold 122 = .ok (.iload_n 2, 1) := by decide +kernel
theorem dX12_hold_123 : decode cX12_hold 123 = .ok (.iadd, 1) := by decide +kernel
theorem dX12_hold_124 : decode cX12_hold 124 = .ok (.iastore, 1) := by decide +kernel
theorem dX12_hold_125 : decode cX12_hold 125 = .ok (.aload_n 0, 1) := by decide +kernel
theorem dX12_hold_126 : decode cX12_hold 126 = .ok (.getfield 90, 3) := by decide +kernel
theorem dX12_hold_129 : decode cX12_hold 129 = .ok (.iconst 4, 1) := by decide +kernel
theorem dX12_hold_130 : decode cX12_hold 130 = .ok (.dup2, 1) := by decide +kernel
theorem dX12_hold_131 : decode cX12_hold 131 = .ok (.iaload, 1) := by decide +kernel
theorem dX12_hold_132 : decode cX12_hold 132 = .ok (.aload_n 0, 1) := by decide +kernel
theorem dX12_hold_133 : decode cX12_hold 133 = .ok (.getfield 21, 3) := by decide +kernel
theorem dX12_hold_136 : decode cX12_hold 136 = .ok (.iload_n 2, 1) := by decide +kernel
theorem dX12_hold_137 : decode cX12_hold 137 = .ok (.iconst 1, 1) := by decide +kernel
theorem dX12_hold_138 : decode cX12_hold 138 = .ok (.if_icmp .ne 8, 3) := by decide +kernel
theorem dX12_hold_141 : decode cX12_hold 141 = .ok (.iload 4, 2) := by decide +kernel
theorem dX12_hold_143 : decode cX12_hold 143 = .ok (.goto 4, 3) := by decide +kernel
theorem dX12_hold_146 : decode cX12_hold 146 = .ok (.iload_n 3, 1) := by decide +kernel
theorem dX12_hold_147 : decode cX12_hold 147 = .ok (.iaload, 1) := by decide +kernel
theorem dX12_hold_148 : decode cX12_hold 148 = .ok (.iadd, 1) := by decide +kernel
theorem dX12_hold_149 : decode cX12_hold 149 = .ok (.iastore, 1) := by decide +kernel
theorem dX12_hold_150 : decode cX12_hold 150 = .ok (.iload 5, 2) := by decide +kernel
theorem dX12_hold_152 : decode cX12_hold 152 = .ok (.ireturn, 1) := by decide +kernel
theorem dX12_release_0 : decode cX12_release 0 = .ok (.aload_n 0, 1) := by decide +kernel
theorem dX12_release_1 : decode cX12_release 1 = .ok (.iload_n 1, 1) := by decide +kernel
theorem dX12_release_2 : decode cX12_release 2 = .ok (.invokevirtual 129, 3) := by decide +kernel
theorem dX12_release_5 : decode cX12_release 5 = .ok (.ifCond .ne 6, 3) := by decide +kernel
theorem dX12_release_8 : decode cX12_release 8 = .ok (.ldc 163, 2) := by decide +kernel
theorem dX12_release_10 : decode cX12_release 10 = .ok (.ireturn, 1) := by decide +kernel
theorem dX12_release_11 : decode cX12_release 11 = .ok (.aload_n 0, 1) := by decide +kernel
theorem dX12_release_12 : decode cX12_release 12 = .ok (.getfield 65, 3) := by decide +kernel
theorem dX12_release_15 : decode cX12_release 15 = .ok (.iload_n 1, 1) := by decide +kernel
theorem dX12_release_16 : decode cX12_release 16 = .ok (.iaload, 1) := by decide +kernel
theorem dX12_release_17 : decode cX12_release 17 = .ok (.istore_n 2, 1) := by decide +kernel
theorem dX12_release_18 : decode cX12_release 18 = .ok (.aload_n 0, 1) := by decide +kernel
theorem dX12_release_19 : decode cX12_release 19 = .ok (.getfield 65, 3) := by decide +kernel
theorem dX12_release_22 : decode cX12_release 22 = .ok (.iload_n 1, 1) := by decide +kernel
theorem dX12_release_23 : decode cX12_release 23 = .ok (.iconst (-1), 1) := by decide +kernel
theorem dX12_release_24 : decode cX12_release 24 = .ok (.iastore, 1) := by decide +kernel
theorem dX12_release_25 : decode cX12_release 25 = .ok (.aload_n 0, 1) := by decide +kernel
theorem dX12_release_26 : decode cX12_release 26 = .ok (.getfield 90, 3) := by decide +kernel
theorem dX12_release_29 : decode cX12_release 29 = .ok (.iconst 3, 1) := by decide +kernel
theorem dX12_release_30 : decode cX12_release 30 = .ok (.dup2, 1) := by decide +kernel
theorem dX12_release_31 : decode cX12_release 31 = .ok (.iaload, 1) := by decide +kernel
theorem dX12_release_32 : decode cX12_release 32 = .ok (.iconst 1, 1) := by decide +kernel
theorem dX12_release_33 : decode cX12_release 33 = .ok (.iadd, 1) := by decide +kernel
theorem dX12_release_34 : decode cX12_release 34 = .ok (.iastore, 1) := by decide +kernel
theorem dX12_release_35 : decode cX12_release 35 = .ok (.iload_n 2, 1) := by decide +kernel
theorem dX12_release_36 : decode cX12_release 36 = .ok (.ireturn, 1) := by decide +kernel
theorem dX12_year_0 : decode cX12_year 0 = .ok (.aload_n 0, 1) := by decide +kernel
theorem dX12_year_1 : decode cX12_year 1 = .ok (.invokevirtual 257, 3) := by decide +kernel
theorem dX12_year_4 : decode cX12_year 4 = .ok (.aload_n 0, 1) := by decide +kernel
theorem dX12_year_5 : decode cX12_year 5 = .ok (.invokevirtual 241, 3) := by decide +kernel
theorem dX12_year_8 : decode cX12_year 8 = .ok (.istore_n 1, 1) := by decide +kernel
theorem dX12_year_9 : decode cX12_year 9 = .ok (.iconst 0, 1) := by decide +kernel
theorem dX12_year_10 : decode cX12_year 10 = .ok (.istore_n 2, 1) := by decide +kernel
theorem dX12_year_11 : decode cX12_year 11 = .ok (.iload_n 2, 1) := by decide +kernel
theorem dX12_year_12 : decode cX12_year 12 = .ok (.aload_n 0, 1) := by decide +kernel
theorem dX12_year_13 : decode cX12_year 13 = .ok (.getfield 122, 3) := by decide +kernel
theorem dX12_year_16 : decode cX12_year 16 = .ok (.if_icmp .ge 16, 3) := by decide +kernel
theorem dX12_year_19 : decode cX12_year 19 = .ok (.aload_n 0, 1) := by decide +kernel
theorem dX12_year_20 : decode cX12_year 20 = .ok (.getfield 65, 3) := by decide +kernel
theorem dX12_year_23 : decode cX12_year 23 = .ok (.iload_n 2, 1) := by decide +kernel
theorem dX12_year_24 : decode cX12_year 24 = .ok (.iconst (-1), 1) := by decide +kernel
theorem dX12_year_25 : decode cX12_year 25 = .ok (.iastore, 1) := by decide +kernel
theorem dX12_year_26 : decode cX12_year 26 = .ok (.iinc 2 1, 3) := by decide +kernel
theorem dX12_year_29 : decode cX12_year 29 = .ok (.goto (-18), 3) := by decide +kernel
theorem dX12_year_32 : decode cX12_year 32 = .ok (.aload_n 0, 1) := by decide +kernel
theorem dX12_year_33 : decode cX12_year 33 = .ok (.iconst 0, 1) := by decide +kernel
theorem dX12_year_34 : decode cX12_year 34 = .ok (.putfield 235, 3) := by decide +kernel
theorem dX12_year_37 : decode cX12_year 37 = .ok (.aload_n 0, 1) := by decide +kernel
theorem dX12_year_38 : decode cX12_year 38 = .ok (.getfield 90, 3) := by decide +kernel
theorem dX12_year_41 : decode cX12_year 41 = .ok (.iconst 2, 1) := by decide +kernel
theorem dX12_year_42 : decode cX12_year 42 = .ok (.dup2, 1) := by decide +kernel
theorem dX12_year_43 : decode cX12_year 43 = .ok (.iaload, 1) := by decide +kernel
theorem dX12_year_44 : decode cX12_year 44 = .ok (.iconst 1, 1) := by decide +kernel
theorem dX12_year_45 : decode cX12_year 45 = .ok (.iadd, 1) := by decide +kernel
theorem dX12_year_46 : decode cX12_year 46 = .ok (.iastore, 1) := by decide +kernel
theorem dX12_year_47 : decode cX12_year 47 = .ok (.iload_n 1, 1) := by decide +kernel
theorem dX12_year_48 : decode cX12_year 48 = .ok (.ireturn, 1) := by decide +kernel
theorem dX12_led_0 : decode cX12_led 0 = .ok (.iload_n 1, 1) := by decide +kernel
theorem dX12_led_1 : decode cX12_led 1 = .ok (.iconst 0, 1) := by decide +kernel
theorem dX12_led_2 : decode cX12_led 2 = .ok (.iconst 4, 1) := by decide +kernel
theorem dX12_led_3 : decode cX12_led 3 = .ok (.invokestatic 125, 3) := by decide +kernel
theorem dX12_led_6 : decode cX12_led 6 = .ok (.ifCond .eq 12, 3) := by decide +kernel
theorem dX12_led_9 : decode cX12_led 9 = .ok (.aload_n 0, 1) := by decide +kernel
theorem dX12_led_10 : decode cX12_led 10 = .ok (.getfield 90, 3) := by decide +kernel
theorem dX12_led_13 : decode cX12_led 13 = .ok (.iload_n 1, 1) := by decide +kernel
theorem dX12_led_14 : decode cX12_led 14 = .ok (.iaload, 1) := by decide +kernel
theorem dX12_led_15 : decode cX12_led 15 = .ok (.goto 4, 3) := by decide +kernel
theorem dX12_led_18 : decode cX12_led 18 = .ok (.iconst (-1), 1) := by decide +kernel
theorem dX12_led_19 : decode cX12_led 19 = .ok (.ireturn, 1) := by decide +kernel
theorem dX12_image_0 : decode cX12_image 0 = .ok (.aload_n 0, 1) := by decide +kernel
theorem dX12_image_1 : decode cX12_image 1 = .ok (.iconst 1, 1) := by decide +kernel
theorem dX12_image_2 : decode cX12_image 2 = .ok (.putfield 374, 3) := by decide +kernel
theorem dX12_image_5 : decode cX12_image 5 = .ok (.aload_n 0, 1) := by decide +kernel
theorem dX12_image_6 : decode cX12_image 6 = .ok (.aload_n 0, 1) := by decide +kernel
theorem dX12_image_7 : decode cX12_image 7 = .ok (.getfield 235, 3) := by decide +kernel
theorem dX12_image_10 : decode cX12_image 10 = .ok (.putfield 377, 3) := by decide +kernel
theorem dX12_image_13 : decode cX12_image 13 = .ok (.iconst 0, 1) := by decide +kernel
theorem dX12_image_14 : decode cX12_image 14 = .ok (.istore_n 1, 1) := by decide +kernel
theorem dX12_image_15 : decode cX12_image 15 = .ok (.iload_n 1, 1) := by decide +kernel
theorem dX12_image_16 : decode cX12_image 16 = .ok (.bipush 7, 2) := by decide +kernel
theorem dX12_image_18 : decode cX12_image 18 = .ok (.if_icmp .ge 33, 3) := by decide +kernel
theorem dX12_image_21 : decode cX12_image 21 = .ok (.aload_n 0, 1) := by decide +kernel
theorem dX12_image_22 : decode cX12_image 22 = .ok (.getfield 93, 3) := by decide +kernel
theorem dX12_image_25 : decode cX12_image 25 = .ok (.iload_n 1, 1) := by decide +kernel
theorem dX12_image_26 : decode cX12_image 26 = .ok (.iload_n 1, 1) := by decide +kernel
theorem dX12_image_27 : decode cX12_image 27 = .ok (.aload_n 0, 1) := by decide +kernel
theorem dX12_image_28 : decode cX12_image 28 = .ok (.getfield 122, 3) := by decide +kernel
theorem dX12_image_31 : decode cX12_image 31 = .ok (.if_icmp .ge 12, 3) := by decide +kernel
theorem dX12_image_34 : decode cX12_image 34 = .ok (.aload_n 0, 1) := by decide +kernel
theorem dX12_image_35 : decode cX12_image 35 = .ok (.getfield 65, 3) := by decide +kernel
theorem dX12_image_38 : decode cX12_image 38 = .ok (.iload_n 1, 1) := by decide +kernel
theorem dX12_image_39 : decode cX12_image 39 = .ok (.iaload, 1) := by decide +kernel
theorem dX12_image_40 : decode cX12_image 40 = .ok (.goto 4, 3) := by decide +kernel
theorem dX12_image_43 : decode cX12_image 43 = .ok (.iconst (-1), 1) := by decide +kernel
theorem dX12_image_44 : decode cX12_image 44 = .ok (.iastore, 1) := by decide +kernel
theorem dX12_image_45 : decode cX12_image 45 = .ok (.iinc 1 1, 3) := by decide +kernel
theorem dX12_image_48 : decode cX12_image 48 = .ok (.goto (-33), 3) := by decide +kernel
theorem dX12_image_51 : decode cX12_image 51 = .ok (.iconst 0, 1) := by decide +kernel
theorem dX12_image_52 : decode cX12_image 52 = .ok (.istore_n 1, 1) := by decide +kernel
theorem dX12_image_53 : decode cX12_image 53 = .ok (.iload_n 1, 1) := by decide +kernel
theorem dX12_image_54 : decode cX12_image 54 = .ok (.iconst 5, 1) := by decide +kernel
theorem dX12_image_55 : decode cX12_image 55 = .ok (.if_icmp .ge 21, 3) := by decide +kernel
theorem dX12_image_58 : decode cX12_image 58 = .ok (.aload_n 0, 1) := by decide +kernel
theorem dX12_image_59 : decode cX12_image 59 = .ok (.getfield 96, 3) := by decide +kernel
theorem dX12_image_62 : decode cX12_image 62 = .ok (.iload_n 1, 1) := by decide +kernel
theorem dX12_image_63 : decode cX12_image 63 = .ok (.aload_n 0, 1) := by decide +kernel
theorem dX12_image_64 : decode cX12_image 64 = .ok (.getfield 90, 3) := by decide +kernel
theorem dX12_image_67 : decode cX12_image 67 = .ok (.iload_n 1, 1) := by decide +kernel
theorem dX12_image_68 : decode cX12_image 68 = .ok (.iaload, 1) := by decide +kernel
theorem dX12_image_69 : decode cX12_image 69 = .ok (.iastore, 1) := by decide +kernel
theorem dX12_image_70 : decode cX12_image 70 = .ok (.iinc 1 1, 3) := by decide +kernel
theorem dX12_image_73 : decode cX12_image 73 = .ok (.goto (-20), 3) := by decide +kernel
theorem dX12_image_76 : decode cX12_image 76 = .ok (.aload_n 0, 1) := by decide +kernel
theorem dX12_image_77 : decode cX12_image 77 = .ok (.getfield 90, 3) := by decide +kernel
theorem dX12_image_80 : decode cX12_image 80 = .ok (.iconst 0, 1) := by decide +kernel
theorem dX12_image_81 : decode cX12_image 81 = .ok (.iaload, 1) := by decide +kernel
theorem dX12_image_82 : decode cX12_image 82 = .ok (.ireturn, 1) := by decide +kernel
theorem dX12_back_0 : decode cX12_back 0 = .ok (.aload_n 0, 1) := by decide +kernel
theorem dX12_back_1 : decode cX12_back 1 = .ok (.getfield 374, 3) := by decide +kernel
theorem dX12_back_4 : decode cX12_back 4 = .ok (.ifCond .ne 6, 3) := by decide +kernel
theorem dX12_back_7 : decode cX12_back 7 = .ok (.bipush (-5), 2) := by decide +kernel
theorem dX12_back_9 : decode cX12_back 9 = .ok (.ireturn, 1) := by decide +kernel
theorem dX12_back_10 : decode cX12_back 10 = .ok (.aload_n 0, 1) := by decide +kernel
theorem dX12_back_11 : decode cX12_back 11 = .ok (.aload_n 0, 1) := by decide +kernel
theorem dX12_back_12 : decode cX12_back 12 = .ok (.getfield 377, 3) := by decide +kernel
theorem dX12_back_15 : decode cX12_back 15 = .ok (.putfield 235, 3) := by decide +kernel
theorem dX12_back_18 : decode cX12_back 18 = .ok (.iconst 0, 1) := by decide +kernel
theorem dX12_back_19 : decode cX12_back 19 = .ok (.istore_n 1, 1) := by decide +kernel
theorem dX12_back_20 : decode cX12_back 20 = .ok (.iload_n 1, 1) := by decide +kernel
theorem dX12_back_21 : decode cX12_back 21 = .ok (.bipush 7, 2) := by decide +kernel
theorem dX12_back_23 : decode cX12_back 23 = .ok (.if_icmp .ge 21, 3) := by decide +kernel
theorem dX12_back_26 : decode cX12_back 26 = .ok (.aload_n 0, 1) := by decide +kernel
theorem dX12_back_27 : decode cX12_back 27 = .ok (.getfield 65, 3) := by decide +kernel
theorem dX12_back_30 : decode cX12_back 30 = .ok (.iload_n 1, 1) := by decide +kernel
theorem dX12_back_31 : decode cX12_back 31 = .ok (.aload_n 0, 1) := by decide +kernel
theorem dX12_back_32 : decode cX12_back 32 = .ok (.getfield 93, 3) := by decide +kernel
theorem dX12_back_35 : decode cX12_back 35 = .ok (.iload_n 1, 1) := by decide +kernel
theorem dX12_back_36 : decode cX12_back 36 = .ok (.iaload, 1) := by decide +kernel
theorem dX12_back_37 : decode cX12_back 37 = .ok (.iastore, 1) := by decide +kernel
theorem dX12_back_38 : decode cX12_back 38 = .ok (.iinc 1 1, 3) := by decide +kernel
theorem dX12_back_41 : decode cX12_back 41 = .ok (.goto (-21), 3) := by decide +kernel
theorem dX12_back_44 : decode cX12_back 44 = .ok (.iconst 0, 1) := by decide +kernel
theorem dX12_back_45 : decode cX12_back 45 = .ok (.istore_n 1, 1) := by decide +kernel
theorem dX12_back_46 : decode cX12_back 46 = .ok (.iload_n 1, 1) := by decide +kernel
theorem dX12_back_47 : decode cX12_back 47 = .ok (.iconst 5, 1) := by decide +kernel
theorem dX12_back_48 : decode cX12_back 48 = .ok (.if_icmp .ge 21, 3) := by decide +kernel
theorem dX12_back_51 : decode cX12_back 51 = .ok (.aload_n 0, 1) := by decide +kernel
theorem dX12_back_52 : decode cX12_back 52 = .ok (.getfield 90, 3) := by decide +kernel
theorem dX12_back_55 : decode cX12_back 55 = .ok (.iload_n 1, 1) := by decide +kernel
theorem dX12_back_56 : decode cX12_back 56 = .ok (.aload_n 0, 1) := by decide +kernel
theorem dX12_back_57 : decode cX12_back 57 = .ok (.getfield 96, 3) := by decide +kernel
theorem dX12_back_60 : decode cX12_back 60 = .ok (.iload_n 1, 1) := by decide +kernel
theorem dX12_back_61 : decode cX12_back 61 = .ok (.iaload, 1) := by decide +kernel
theorem dX12_back_62 : decode cX12_back 62 = .ok (.iastore, 1) := by decide +kernel
theorem dX12_back_63 : decode cX12_back 63 = .ok (.iinc 1 1, 3) := by decide +kernel
theorem dX12_back_66 : decode cX12_back 66 = .ok (.goto (-20), 3) := by decide +kernel
theorem dX12_back_69 : decode cX12_back 69 = .ok (.aload_n 0, 1) := by decide +kernel
theorem dX12_back_70 : decode cX12_back 70 = .ok (.getfield 90, 3) := by decide +kernel
theorem dX12_back_73 : decode cX12_back 73 = .ok (.iconst 0, 1) := by decide +kernel
theorem dX12_back_74 : decode cX12_back 74 = .ok (.iaload, 1) := by decide +kernel
theorem dX12_back_75 : decode cX12_back 75 = .ok (.ireturn, 1) := by decide +kernel
theorem dX12_isBody_0 : decode cX12_isBody 0 = .ok (.iload_n 1, 1) := by decide +kernel
theorem dX12_isBody_1 : decode cX12_isBody 1 = .ok (.iconst 0, 1) := by decide +kernel
theorem dX12_isBody_2 : decode cX12_isBody 2 = .ok (.aload_n 0, 1) := by decide +kernel
theorem dX12_isBody_3 : decode cX12_isBody 3 = .ok (.getfield 380, 3) := by decide +kernel
theorem dX12_isBody_6 : decode cX12_isBody 6 = .ok (.iconst 1, 1) := by decide +kernel
theorem dX12_isBody_7 : decode cX12_isBody 7 = .ok (.isub, 1) := by decide +kernel
theorem dX12_isBody_8 : decode cX12_isBody 8 = .ok (.invokestatic 125, 3) := by decide +kernel
theorem dX12_isBody_11 : decode cX12_isBody 11 = .ok (.ireturn, 1) := by decide +kernel
theorem dX12_ran_0 : decode cX12_ran 0 = .ok (.aload_n 0, 1) := by decide +kernel
theorem dX12_ran_1 : decode cX12_ran 1 = .ok (.getfield 383, 3) := by decide +kernel
theorem dX12_ran_4 : decode cX12_ran 4 = .ok (.bipush 24, 2) := by decide +kernel
theorem dX12_ran_6 : decode cX12_ran 6 = .ok (.if_icmp .ge 13, 3) := by decide +kernel
theorem dX12_ran_9 : decode cX12_ran 9 = .ok (.aload_n 0, 1) := by decide +kernel
theorem dX12_ran_10 : decode cX12_ran 10 = .ok (.getfield 102, 3) := by decide +kernel
theorem dX12_ran_13 : decode cX12_ran 13 = .ok (.aload_n 0, 1) := by decide +kernel
theorem dX12_ran_14 : decode cX12_ran 14 = .ok (.getfield 383, 3) := by decide +kernel
theorem dX12_ran_17 : decode cX12_ran 17 = .ok (.iload_n 1, 1) := by decide +kernel
theorem dX12_ran_18 : decode cX12_ran 18 = .ok (.iastore, 1) := by decide +kernel
theorem dX12_ran_19 : decode cX12_ran 19 = .ok (.aload_n 0, 1) := by decide +kernel
theorem dX12_ran_20 : decode cX12_ran 20 = .ok (.dup, 1) := by decide +kernel
theorem dX12_ran_21 : decode cX12_ran 21 = .ok (.getfield 383, 3) := by decide +kernel
theorem dX12_ran_24 : decode cX12_ran 24 = .ok (.iconst 1, 1) := by decide +kernel
theorem dX12_ran_25 : decode cX12_ran 25 = .ok (.iadd, 1) := by decide +kernel
theorem dX12_ran_26 : decode cX12_ran 26 = .ok (.putfield 383, 3) := by decide +kernel
theorem dX12_ran_29 : decode cX12_ran 29 = .ok (.return_, 1) := by decide +kernel
theorem dX12_trace_0 : decode cX12_trace 0 = .ok (.iload_n 1, 1) := by decide +kernel
theorem dX12_trace_1 : decode cX12_trace 1 = .ok (.ifCond .lt 26, 3) := by decide +kernel
theorem dX12_trace_4 : decode cX12_trace 4 = .ok (.iload_n 1, 1) := by decide +kernel
theorem dX12_trace_5 : decode cX12_trace 5 = .ok (.aload_n 0, 1) := by decide +kernel
theorem dX12_trace_6 : decode cX12_trace 6 = .ok (.getfield 383, 3) := by decide +kernel
theorem dX12_trace_9 : decode cX12_trace 9 = .ok (.if_icmp .ge 18, 3) := by decide +kernel
theorem dX12_trace_12 : decode cX12_trace 12 = .ok (.iload_n 1, 1) := by decide +kernel
theorem dX12_trace_13 : decode cX12_trace 13 = .ok (.bipush 24, 2) := by decide +kernel
theorem dX12_trace_15 : decode cX12_trace 15 = .ok (.if_icmp .ge 12, 3) := by decide +kernel
theorem dX12_trace_18 : decode cX12_trace 18 = .ok (.aload_n 0, 1) := by decide +kernel
theorem dX12_trace_19 : decode cX12_trace 19 = .ok (.getfield 102, 3) := by decide +kernel
theorem dX12_trace_22 : decode cX12_trace 22 = .ok (.iload_n 1, 1) := by decide +kernel
theorem dX12_trace_23 : decode cX12_trace 23 = .ok (.iaload, 1) := by decide +kernel
theorem dX12_trace_24 : decode cX12_trace 24 = .ok (.goto 4, 3) := by decide +kernel
theorem dX12_trace_27 : decode cX12_trace 27 = .ok (.iconst (-1), 1) := by decide +kernel
theorem dX12_trace_28 : decode cX12_trace 28 = .ok (.ireturn, 1) := by decide +kernel
theorem dX12_body_0 : decode cX12_body 0 = .ok (.iload_n 1, 1) := by decide +kernel
theorem dX12_body_1 : decode cX12_body 1 = .ok (.iconst 0, 1) := by decide +kernel
theorem dX12_body_2 : decode cX12_body 2 = .ok (.bipush 7, 2) := by decide +kernel
theorem dX12_body_4 : decode cX12_body 4 = .ok (.invokestatic 125, 3) := by decide +kernel
theorem dX12_body_7 : decode cX12_body 7 = .ok (.ifCond .ne 5, 3) := by decide +kernel
theorem dX12_body_10 : decode cX12_body 10 = .ok (.iconst (-1), 1) := by decide +kernel
theorem dX12_body_11 : decode cX12_body 11 = .ok (.ireturn, 1) := by decide +kernel
theorem dX12_body_12 : decode cX12_body 12 = .ok (.aload_n 0, 1) := by decide +kernel
theorem dX12_body_13 : decode cX12_body 13 = .ok (.getfield 380, 3) := by decide +kernel
theorem dX12_body_16 : decode cX12_body 16 = .ok (.bipush 50, 2) := by decide +kernel
theorem dX12_body_18 : decode cX12_body 18 = .ok (.if_icmp .ne 6, 3) := by decide +kernel
theorem dX12_body_21 : decode cX12_body 21 = .ok (.bipush (-3), 2) := by decide +kernel
theorem dX12_body_23 : decode cX12_body 23 = .ok (.ireturn, 1) := by decide +kernel
theorem dX12_body_24 : decode cX12_body 24 = .ok (.aload_n 0, 1) := by decide +kernel
theorem dX12_body_25 : decode cX12_body 25 = .ok (.getfield 99, 3) := by decide +kernel
theorem dX12_body_28 : decode cX12_body 28 = .ok (.aload_n 0, 1) := by decide +kernel
theorem dX12_body_29 : decode cX12_body 29 = .ok (.getfield 380, 3) := by decide +kernel
theorem dX12_body_32 : decode cX12_body 32 = .ok (.iload_n 1, 1) := by decide +kernel
theorem dX12_body_33 : decode cX12_body 33 = .ok (.iastore, 1) := by decide +kernel
theorem dX12_body_34 : decode cX12_body 34 = .ok (.aload_n 0, 1) := by decide +kernel
theorem dX12_body_35 : decode cX12_body 35 = .ok (.dup, 1) := by decide +kernel
theorem dX12_body_36 : decode cX12_body 36 = .ok (.getfield 380, 3) := by decide +kernel
theorem dX12_body_39 : decode cX12_body 39 = .ok (.iconst 1, 1) := by decide +kernel
theorem dX12_body_40 : decode cX12_body 40 = .ok (.iadd, 1) := by decide +kernel
theorem dX12_body_41 : decode cX12_body 41 = .ok (.putfield 380, 3) := by decide +kernel
theorem dX12_body_44 : decode cX12_body 44 = .ok (.aload_n 0, 1) := by decide +kernel
theorem dX12_body_45 : decode cX12_body 45 = .ok (.getfield 380, 3) := by decide +kernel
theorem dX12_body_48 : decode cX12_body 48 = .ok (.iconst 1, 1) := by decide +kernel
theorem dX12_body_49 : decode cX12_body 49 = .ok (.isub, 1) := by decide +kernel
theorem dX12_body_50 : decode cX12_body 50 = .ok (.ireturn, 1) := by decide +kernel
theorem dX12_isUnder_0 : decode cX12_isUnder 0 = .ok (.iload_n 1, 1) := by decide +kernel
theorem dX12_isUnder_1 : decode cX12_isUnder 1 = .ok (.ifCond .eq 55, 3) := by decide +kernel
theorem dX12_isUnder_4 : decode cX12_isUnder 4 = .ok (.iload_n 0, 1) := by decide +kernel
theorem dX12_isUnder_5 : decode cX12_isUnder 5 = .ok (.iload_n 1, 1) := by decide +kernel
theorem dX12_isUnder_6 : decode cX12_isUnder 6 = .ok (.if_icmp .eq 50, 3) := by decide +kernel
theorem dX12_isUnder_9 : decode cX12_isUnder 9 = .ok (.iload_n 1, 1) := by decide +kernel
theorem dX12_isUnder_10 : decode cX12_isUnder 10 = .ok (.iconst 1, 1) := by decide +kernel
theorem dX12_isUnder_11 : decode cX12_isUnder 11 = .ok (.if_icmp .ne 8, 3) := by decide +kernel
theorem dX12_isUnder_14 : decode cX12_isUnder 14 = .ok (.iload_n 0, 1) := by decide +kernel
theorem dX12_isUnder_15 : decode cX12_isUnder 15 = .ok (.iconst 4, 1) := by decide +kernel
theorem dX12_isUnder_16 : decode cX12_isUnder 16 = .ok (.if_icmp .eq 40, 3) := by decide +kernel
theorem dX12_isUnder_19 : decode cX12_isUnder 19 = .ok (.iload_n 1, 1) := by decide +kernel
theorem dX12_isUnder_20 : decode cX12_isUnder 20 = .ok (.iconst 2, 1) := by decide +kernel
theorem dX12_isUnder_21 : decode cX12_isUnder 21 = .ok (.if_icmp .ne 13, 3) := by decide +kernel
theorem dX12_isUnder_24 : decode cX12_isUnder 24 = .ok (.iload_n 0, 1) := by decide +kernel
theorem dX12_isUnder_25 : decode cX12_isUnder 25 = .ok (.iconst 3, 1) := by decide +kernel
theorem dX12_isUnder_26 : decode cX12_isUnder 26 = .ok (.if_icmp .eq 30, 3) := by decide +kernel
theorem dX12_isUnder_29 : decode cX12_isUnder 29 = .ok (.iload_n 0, 1) := by decide +kernel
theorem dX12_isUnder_30 : decode cX12_isUnder 30 = .ok (.iconst 5, 1) := by decide +kernel
theorem dX12_isUnder_31 : decode cX12_isUnder 31 = .ok (.if_icmp .eq 25, 3) := by decide +kernel
theorem dX12_isUnder_34 : decode cX12_isUnder 34 = .ok (.iload_n 1, 1) := by decide +kernel
theorem dX12_isUnder_35 : decode cX12_isUnder 35 = .ok (.iconst 3, 1) := by decide +kernel
theorem dX12_isUnder_36 : decode cX12_isUnder 36 = .ok (.if_icmp .ne 8, 3) := by decide +kernel
theorem dX12_isUnder_39 : decode cX12_isUnder 39 = .ok (.iload_n 0, 1) := by decide +kernel
theorem dX12_isUnder_40 : decode cX12_isUnder 40 = .ok (.iconst 5, 1) := by decide +kernel
theorem dX12_isUnder_41 : decode cX12_isUnder 41 = .ok (.if_icmp .eq 15, 3) := by decide +kernel
theorem dX12_isUnder_44 : decode cX12_isUnder 44 = .ok (.iload_n 1, 1) := by decide +kernel
theorem dX12_isUnder_45 : decode cX12_isUnder 45 = .ok (.bipush 6, 2) := by decide +kernel
theorem dX12_isUnder_47 : decode cX12_isUnder 47 = .ok (.if_icmp .ne 13, 3) := by decide +kernel
theorem dX12_isUnder_50 : decode cX12_isUnder 50 = .ok (.iload_n 0, 1) := by decide +kernel
theorem dX12_isUnder_51 : decode cX12_isUnder 51 = .ok (.bipush 7, 2) := by decide +kernel
theorem dX12_isUnder_53 : decode cX12_isUnder 53 = .ok (.if_icmp .ne 7, 3) := by decide +kernel
theorem dX12_isUnder_56 : decode cX12_isUnder 56 = .ok (.iconst 1, 1) := by decide +kernel
theorem dX12_isUnder_57 : decode cX12_isUnder 57 = .ok (.goto 4, 3) := by decide +kernel
theorem dX12_isUnder_60 : decode cX12_isUnder 60 = .ok (.iconst 0, 1) := by decide +kernel
theorem dX12_isUnder_61 : decode cX12_isUnder 61 = .ok (.ireturn, 1) := by decide +kernel
theorem dX12_plainBrings_0 : decode cX12_plainBrings 0 = .ok (.aload_n 0, 1) := by decide +kernel
theorem dX12_plainBrings_1 : decode cX12_plainBrings 1 = .ok (.iconst 1, 1) := by decide +kernel
theorem dX12_plainBrings_2 : decode cX12_plainBrings 2 = .ok (.invokevirtual 386, 3) := by decide +kernel
theorem dX12_plainBrings_5 : decode cX12_plainBrings 5 = .ok (.iload_n 2, 1) := by decide +kernel
theorem dX12_plainBrings_6 : decode cX12_plainBrings 6 = .ok (.iload_n 1, 1) := by decide +kernel
theorem dX12_plainBrings_7 : decode cX12_plainBrings 7 = .ok (.iadd, 1) := by decide +kernel
theorem dX12_plainBrings_8 : decode cX12_plainBrings 8 = .ok (.ireturn, 1) := by decide +kernel
theorem dX12_soldBrings_0 : decode cX12_soldBrings 0 = .ok (.aload_n 0, 1) := by decide +kernel
theorem dX12_soldBrings_1 : decode cX12_soldBrings 1 = .ok (.bipush 70, 2) := by decide +kernel
theorem dX12_soldBrings_3 : decode cX12_soldBrings 3 = .ok (.invokevirtual 386, 3) := by decide +kernel
theorem dX12_soldBrings_6 : decode cX12_soldBrings 6 = .ok (.aload_n 0, 1) := by decide +kernel
theorem dX12_soldBrings_7 : decode cX12_soldBrings 7 = .ok (.iload_n 1, 1) := by decide +kernel
theorem dX12_soldBrings_8 : decode cX12_soldBrings 8 = .ok (.iload_n 2, 1) := by decide +kernel
theorem dX12_soldBrings_9 : decode cX12_soldBrings 9 = .ok (.invokevirtual 389, 3) := by decide +kernel
theorem dX12_soldBrings_12 : decode cX12_soldBrings 12 = .ok (.iconst 2, 1) := by decide +kernel
theorem dX12_soldBrings_13 : decode cX12_soldBrings 13 = .ok (.imul, 1) := by decide +kernel
theorem dX12_soldBrings_14 : decode cX12_soldBrings 14 = .ok (.ireturn, 1) := by decide +kernel
theorem dX12_bringing_0 : decode cX12_bringing 0 = .ok (.aload_n 0, 1) := by decide +kernel
theorem dX12_bringing_1 : decode cX12_bringing 1 = .ok (.getfield 99, 3) := by decide +kernel
theorem dX12_bringing_4 : decode cX12_bringing 4 = .ok (.iload_n 1, 1) := by decide +kernel
theorem dX12_bringing_5 : decode cX12_bringing 5 = .ok (.iaload, 1) := by decide +kernel
theorem dX12_bringing_6 : decode cX12_bringing 6 = .ok (.iconst 1, 1) := by decide +kernel
theorem dX12_bringing_7 : decode cX12_bringing 7 = .ok (.invokestatic 392, 3) := by decide +kernel
theorem dX12_bringing_10 : decode cX12_bringing 10 = .ok (.ifCond .eq 18, 3) := by decide +kernel
theorem dX12_bringing_13 : decode cX12_bringing 13 = .ok (.aload_n 0, 1) := by decide +kernel
theorem dX12_bringing_14 : decode cX12_bringing 14 = .ok (.bipush 20, 2) := by decide +kernel
theorem dX12_bringing_16 : decode cX12_bringing 16 = .ok (.invokevirtual 386, 3) := by decide +kernel
theorem dX12_bringing_19 : decode cX12_bringing 19 = .ok (.aload_n 0, 1) := by decide +kernel
theorem dX12_bringing_20 : decode cX12_bringing 20 = .ok (.iload_n 1, 1) := by decide +kernel
theorem dX12_bringing_21 : decode cX12_bringing 21 = .ok (.iload_n 2, 1) := by decide +kernel
theorem dX12_bringing_22 : decode cX12_bringing 22 = .ok (.invokevirtual 389, 3) := by decide +kernel
theorem dX12_bringing_25 : decode cX12_bringing 25 = .ok (.iconst 3, 1) := by decide +kernel
theorem dX12_bringing_26 : decode cX12_bringing 26 = .ok (.iadd, 1) := by decide +kernel
theorem dX12_bringing_27 : decode cX12_bringing 27 = .ok (.ireturn, 1) := by decide +kernel
theorem dX12_bringing_28 : decode cX12_bringing 28 = .ok (.aload_n 0, 1) := by decide +kernel
theorem dX12_bringing_29 : decode cX12_bringing 29 = .ok (.getfield 99, 3) := by decide +kernel
theorem dX12_bringing_32 : decode cX12_bringing 32 = .ok (.iload_n 1, 1) := by decide +kernel
theorem dX12_bringing_33 : decode cX12_bringing 33 = .ok (.iaload, 1) := by decide +kernel
theorem dX12_bringing_34 : decode cX12_bringing 34 = .ok (.bipush 7, 2) := by decide +kernel
theorem dX12_bringing_36 : decode cX12_bringing 36 = .ok (.if_icmp .ne 18, 3) := by decide +kernel
theorem dX12_bringing_39 : decode cX12_bringing 39 = .ok (.aload_n 0, 1) := by decide +kernel
theorem dX12_bringing_40 : decode cX12_bringing 40 = .ok (.bipush 81, 2) := by decide +kernel
theorem dX12_bringing_42 : decode cX12_bringing 42 = .ok (.invokevirtual 386, 3) := by decide +kernel
theorem dX12_bringing_45 : decode cX12_bringing 45 = .ok (.aload_n 0, 1) := by decide +kernel
theorem dX12_bringing_46 : decode cX12_bringing 46 = .ok (.iload_n 1, 1) := by decide +kernel
theorem dX12_bringing_47 : decode cX12_bringing 47 = .ok (.iload_n 2, 1) := by decide +kernel
theorem dX12_bringing_48 : decode cX12_bringing 48 = .ok (.invokevirtual 395, 3) := by decide +kernel
theorem dX12_bringing_51 : decode cX12_bringing 51 = .ok (.iconst 1, 1) := by decide +kernel
theorem dX12_bringing_52 : decode cX12_bringing 52 = .ok (.isub, 1) := by decide +kernel
theorem dX12_bringing_53 : decode cX12_bringing 53 = .ok (.ireturn, 1) := by decide +kernel
theorem dX12_bringing_54 : decode cX12_bringing 54 = .ok (.aload_n 0, 1) := by decide +kernel
theorem dX12_bringing_55 : decode cX12_bringing 55 = .ok (.getfield 99, 3) := by decide +kernel
theorem dX12_bringing_58 : decode cX12_bringing 58 = .ok (.iload_n 1, 1) := by decide +kernel
theorem dX12_bringing_59 : decode cX12_bringing 59 = .ok (.iaload, 1) := by decide +kernel
theorem dX12_bringing_60 : decode cX12_bringing 60 = .ok (.bipush 6, 2) := by decide +kernel
theorem dX12_bringing_62 : decode cX12_bringing 62 = .ok (.if_icmp .ne 12, 3) := by decide +kernel
theorem dX12_bringing_65 : decode cX12_bringing 65 = .ok (.aload_n 0, 1) := by decide +kernel
theorem dX12_bringing_66 : decode cX12_bringing 66 = .ok (.iload_n 1, 1) := by decide +kernel
theorem dX12_bringing_67 : decode cX12_bringing 67 = .ok (.iload_n 2, 1) := by decide +kernel
theorem dX12_bringing_68 : decode cX12_bringing 68 = .ok (.invokevirtual 395, 3) := by decide +kernel
theorem dX12_bringing_71 : decode cX12_bringing 71 = .ok (.goto 9, 3) := by decide +kernel
theorem dX12_bringing_74 : decode cX12_bringing 74 = .ok (.aload_n 0, 1) := by decide +kernel
theorem dX12_bringing_75 : decode cX12_bringing 75 = .ok (.iload_n 1, 1) := by decide +kernel
theorem dX12_bringing_76 : decode cX12_bringing 76 = .ok (.iload_n 2, 1) := by decide +kernel
theorem dX12_bringing_77 : decode cX12_bringing 77 = .ok (.invokevirtual 389, 3) := by decide +kernel
theorem dX12_bringing_80 : decode cX12_bringing 80 = .ok (.ireturn, 1) := by decide +kernel
theorem dX12_plainSpeaks_0 : decode cX12_plainSpeaks 0 = .ok (.aload_n 0, 1) := by decide +kernel
theorem dX12_plainSpeaks_1 : decode cX12_plainSpeaks 1 = .ok (.bipush 10, 2) := by decide +kernel
theorem dX12_plainSpeaks_3 : decode cX12_plainSpeaks 3 = .ok (.invokevirtual 386, 3) := by decide +kernel
theorem dX12_plainSpeaks_6 : decode cX12_plainSpeaks 6 = .ok (.aload_n 0, 1) := by decide +kernel
theorem dX12_plainSpeaks_7 : decode cX12_plainSpeaks 7 = .ok (.iload_n 1, 1) := by decide +kernel
theorem dX12_plainSpeaks_8 : decode cX12_plainSpeaks 8 = .ok (.iload_n 2, 1) := by decide +kernel
theorem dX12_plainSpeaks_9 : decode cX12_plainSpeaks 9 = .ok (.invokevirtual 398, 3) := by decide +kernel
theorem dX12_plainSpeaks_12 : decode cX12_plainSpeaks 12 = .ok (.iconst 2, 1) := by decide +kernel
theorem dX12_plainSpeaks_13 : decode cX12_plainSpeaks 13 = .ok (.imul, 1) := by decide +kernel
theorem dX12_plainSpeaks_14 : decode cX12_plainSpeaks 14 = .ok (.ireturn, 1) := by decide +kernel
theorem dX12_speechSpeaks_0 : decode cX12_speechSpeaks 0 = .ok (.aload_n 0, 1) := by decide +kernel
theorem dX12_speechSpeaks_1 : decode cX12_speechSpeaks 1 = .ok (.bipush 30, 2) := by decide +kernel
theorem dX12_speechSpeaks_3 : decode cX12_speechSpeaks 3 = .ok (.invokevirtual 386, 3) := by decide +kernel
theorem dX12_speechSpeaks_6 : decode cX12_speechSpeaks 6 = .ok (.aload_n 0, 1) := by decide +kernel
theorem dX12_speechSpeaks_7 : decode cX12_speechSpeaks 7 = .ok (.iload_n 1, 1) := by decide +kernel
theorem dX12_speechSpeaks_8 : decode cX12_speechSpeaks 8 = .ok (.iload_n 2, 1) := by decide +kernel
theorem dX12_speechSpeaks_9 : decode cX12_speechSpeaks 9 = .ok (.invokevirtual 401, 3) := by decide +kernel
theorem dX12_speechSpeaks_12 : decode cX12_speechSpeaks 12 = .ok (.ineg, 1) := by decide +kernel
theorem dX12_speechSpeaks_13 : decode cX12_speechSpeaks 13 = .ok (.ireturn, 1) := by decide +kernel
theorem dX12_speaking_0 : decode cX12_speaking 0 = .ok (.aload_n 0, 1) := by decide +kernel
theorem dX12_speaking_1 : decode cX12_speaking 1 = .ok (.getfield 99, 3) := by decide +kernel
theorem dX12_speaking_4 : decode cX12_speaking 4 = .ok (.iload_n 1, 1) := by decide +kernel
theorem dX12_speaking_5 : decode cX12_speaking 5 = .ok (.iaload, 1) := by decide +kernel
theorem dX12_speaking_6 : decode cX12_speaking 6 = .ok (.iconst 3, 1) := by decide +kernel
theorem dX12_speaking_7 : decode cX12_speaking 7 = .ok (.invokestatic 392, 3) := by decide +kernel
theorem dX12_speaking_10 : decode cX12_speaking 10 = .ok (.ifCond .eq 18, 3) := by decide +kernel
theorem dX12_speaking_13 : decode cX12_speaking 13 = .ok (.aload_n 0, 1) := by decide +kernel
theorem dX12_speaking_14 : decode cX12_speaking 14 = .ok (.bipush 41, 2) := by decide +kernel
theorem dX12_speaking_16 : decode cX12_speaking 16 = .ok (.invokevirtual 386, 3) := by decide +kernel
theorem dX12_speaking_19 : decode cX12_speaking 19 = .ok (.aload_n 0, 1) := by decide +kernel
theorem dX12_speaking_20 : decode cX12_speaking 20 = .ok (.iload_n 1, 1) := by decide +kernel
theorem dX12_speaking_21 : decode cX12_speaking 21 = .ok (.iload_n 2, 1) := by decide +kernel
theorem dX12_speaking_22 : decode cX12_speaking 22 = .ok (.iconst 1, 1) := by decide +kernel
theorem dX12_speaking_23 : decode cX12_speaking 23 = .ok (.iadd, 1) := by decide +kernel
theorem dX12_speaking_24 : decode cX12_speaking 24 = .ok (.invokevirtual 404, 3) := by decide +kernel
theorem dX12_speaking_27 : decode cX12_speaking 27 = .ok (.ireturn, 1) := by decide +kernel
theorem dX12_speaking_28 : decode cX12_speaking 28 = .ok (.aload_n 0, 1) := by decide +kernel
theorem dX12_speaking_29 : decode cX12_speaking 29 = .ok (.getfield 99, 3) := by decide +kernel
theorem dX12_speaking_32 : decode cX12_speaking 32 = .ok (.iload_n 1, 1) := by decide +kernel
theorem dX12_speaking_33 : decode cX12_speaking 33 = .ok (.iaload, 1) := by decide +kernel
theorem dX12_speaking_34 : decode cX12_speaking 34 = .ok (.bipush 7, 2) := by decide +kernel
theorem dX12_speaking_36 : decode cX12_speaking 36 = .ok (.if_icmp .ne 25, 3) := by decide +kernel
theorem dX12_speaking_39 : decode cX12_speaking 39 = .ok (.aload_n 0, 1) := by decide +kernel
theorem dX12_speaking_40 : decode cX12_speaking 40 = .ok (.bipush 80, 2) := by decide +kernel
theorem dX12_speaking_42 : decode cX12_speaking 42 = .ok (.invokevirtual 386, 3) := by decide +kernel
theorem dX12_speaking_45 : decode cX12_speaking 45 = .ok (.aload_n 0, 1) := by decide +kernel
theorem dX12_speaking_46 : decode cX12_speaking 46 = .ok (.iload_n 1, 1) := by decide +kernel
theorem dX12_speaking_47 : decode cX12_speaking 47 = .ok (.iload_n 2, 1) := by decide +kernel
theorem dX12_speaking_48 : decode cX12_speaking 48 = .ok (.invokevirtual 401, 3) := by decide +kernel
theorem dX12_speaking_51 : decode cX12_speaking 51 = .ok (.istore_n 3, 1) := by decide +kernel
theorem dX12_speaking_52 : decode cX12_speaking 52 = .ok (.iload_n 3, 1) := by decide +kernel
theorem dX12_speaking_53 : decode cX12_speaking 53 = .ok (.aload_n 0, 1) := by decide +kernel
theorem dX12_speaking_54 : decode cX12_speaking 54 = .ok (.iload_n 1, 1) := by decide +kernel
theorem dX12_speaking_55 : decode cX12_speaking 55 = .ok (.iconst 2, 1) := by decide +kernel
theorem dX12_speaking_56 : decode cX12_speaking 56 = .ok (.invokevirtual 407, 3) := by decide +kernel
theorem dX12_speaking_59 : decode cX12_speaking 59 = .ok (.iadd, 1) := by decide +kernel
theorem dX12_speaking_60 : decode cX12_speaking 60 = .ok (.ireturn, 1) := by decide +kernel
theorem dX12_speaking_61 : decode cX12_speaking 61 = .ok (.aload_n 0, 1) := by decide +kernel
theorem dX12_speaking_62 : decode cX12_speaking 62 = .ok (.getfield 99, 3) := by decide +kernel
theorem dX12_speaking_65 : decode cX12_speaking 65 = .ok (.iload_n 1, 1) := by decide +kernel
theorem dX12_speaking_66 : decode cX12_speaking 66 = .ok (.iaload, 1) := by decide +kernel
theorem dX12_speaking_67 : decode cX12_speaking 67 = .ok (.iconst 2, 1) := by decide +kernel
theorem dX12_speaking_68 : decode cX12_speaking 68 = .ok (.if_icmp .ne 12, 3) := by decide +kernel
theorem dX12_speaking_71 : decode cX12_speaking 71 = .ok (.aload_n 0, 1) := by decide +kernel
theorem dX12_speaking_72 : decode cX12_speaking 72 = .ok (.iload_n 1, 1) := by decide +kernel
theorem dX12_speaking_73 : decode cX12_speaking 73 = .ok (.iload_n 2, 1) := by decide +kernel
theorem dX12_speaking_74 : decode cX12_speaking 74 = .ok (.invokevirtual 404, 3) := by decide +kernel
theorem dX12_speaking_77 : decode cX12_speaking 77 = .ok (.goto 9, 3) := by decide +kernel
theorem dX12_speaking_80 : decode cX12_speaking 80 = .ok (.aload_n 0, 1) := by decide +kernel
theorem dX12_speaking_81 : decode cX12_speaking 81 = .ok (.iload_n 1, 1) := by decide +kernel
theorem dX12_speaking_82 : decode cX12_speaking 82 = .ok (.iload_n 2, 1) := by decide +kernel
theorem dX12_speaking_83 : decode cX12_speaking 83 = .ok (.invokevirtual 401, 3) := by decide +kernel
theorem dX12_speaking_86 : decode cX12_speaking 86 = .ok (.ireturn, 1) := by decide +kernel
theorem dX12_plainBinds_0 : decode cX12_plainBinds 0 = .ok (.aload_n 0, 1) := by decide +kernel
theorem dX12_plainBinds_1 : decode cX12_plainBinds 1 = .ok (.bipush 11, 2) := by decide +kernel
theorem dX12_plainBinds_3 : decode cX12_plainBinds 3 = .ok (.invokevirtual 386, 3) := by decide +kernel
theorem dX12_plainBinds_6 : decode cX12_plainBinds 6 = .ok (.iload_n 2, 1) := by decide +kernel
theorem dX12_plainBinds_7 : decode cX12_plainBinds 7 = .ok (.iload_n 1, 1) := by decide +kernel
theorem dX12_plainBinds_8 : decode cX12_plainBinds 8 = .ok (.ixor, 1) := by decide +kernel
theorem dX12_plainBinds_9 : decode cX12_plainBinds 9 = .ok (.ireturn, 1) := by decide +kernel
theorem dX12_friendBinds_0 : decode cX12_friendBinds 0 = .ok (.aload_n 0, 1) := by decide +kernel
theorem dX12_friendBinds_1 : decode cX12_friendBinds 1 = .ok (.bipush 40, 2) := by decide +kernel
theorem dX12_friendBinds_3 : decode cX12_friendBinds 3 = .ok (.invokevirtual 386, 3) := by decide +kernel
theorem dX12_friendBinds_6 : decode cX12_friendBinds 6 = .ok (.aload_n 0, 1) := by decide +kernel
theorem dX12_friendBinds_7 : decode cX12_friendBinds 7 = .ok (.iload_n 1, 1) := by decide +kernel
theorem dX12_friendBinds_8 : decode cX12_friendBinds 8 = .ok (.iload_n 2, 1) := by decide +kernel
theorem dX12_friendBinds_9 : decode cX12_friendBinds 9 = .ok (.invokevirtual 410, 3) := by decide +kernel
theorem dX12_friendBinds_12 : decode cX12_friendBinds 12 = .ok (.iconst 3, 1) := by decide +kernel
theorem dX12_friendBinds_13 : decode cX12_friendBinds 13 = .ok (.imul, 1) := by decide +kernel
theorem dX12_friendBinds_14 : decode cX12_friendBinds 14 = .ok (.ireturn, 1) := by decide +kernel
theorem dX12_binding_0 : decode cX12_binding 0 = .ok (.aload_n 0, 1) := by decide +kernel
theorem dX12_binding_1 : decode cX12_binding 1 = .ok (.getfield 99, 3) := by decide +kernel
theorem dX12_binding_4 : decode cX12_binding 4 = .ok (.iload_n 1, 1) := by decide +kernel
theorem dX12_binding_5 : decode cX12_binding 5 = .ok (.iaload, 1) := by decide +kernel
theorem dX12_binding_6 : decode cX12_binding 6 = .ok (.iconst 5, 1) := by decide +kernel
theorem dX12_binding_7 : decode cX12_binding 7 = .ok (.if_icmp .ne 25, 3) := by decide +kernel
theorem dX12_binding_10 : decode cX12_binding 10 = .ok (.aload_n 0, 1) := by decide +kernel
theorem dX12_binding_11 : decode cX12_binding 11 = .ok (.bipush 60, 2) := by decide +kernel
theorem dX12_binding_13 : decode cX12_binding 13 = .ok (.invokevirtual 386, 3) := by decide +kernel
theorem dX12_binding_16 : decode cX12_binding 16 = .ok (.aload_n 0, 1) := by decide +kernel
theorem dX12_binding_17 : decode cX12_binding 17 = .ok (.iload_n 1, 1) := by decide +kernel
theorem dX12_binding_18 : decode cX12_binding 18 = .ok (.iload_n 2, 1) := by decide +kernel
theorem dX12_binding_19 : decode cX12_binding 19 = .ok (.invokevirtual 413, 3) := by decide +kernel
theorem dX12_binding_22 : decode cX12_binding 22 = .ok (.istore_n 3, 1) := by decide +kernel
theorem dX12_binding_23 : decode cX12_binding 23 = .ok (.iload_n 3, 1) := by decide +kernel
theorem dX12_binding_24 : decode cX12_binding 24 = .ok (.aload_n 0, 1) := by decide +kernel
theorem dX12_binding_25 : decode cX12_binding 25 = .ok (.iload_n 1, 1) := by decide +kernel
theorem dX12_binding_26 : decode cX12_binding 26 = .ok (.iconst 2, 1) := by decide +kernel
theorem dX12_binding_27 : decode cX12_binding 27 = .ok (.invokevirtual 398, 3) := by decide +kernel
theorem dX12_binding_30 : decode cX12_binding 30 = .ok (.isub, 1) := by decide +kernel
theorem dX12_binding_31 : decode cX12_binding 31 = .ok (.ireturn, 1) := by decide +kernel
theorem dX12_binding_32 : decode cX12_binding 32 = .ok (.aload_n 0, 1) := by decide +kernel
theorem dX12_binding_33 : decode cX12_binding 33 = .ok (.getfield 99, 3) := by decide +kernel
theorem dX12_binding_36 : decode cX12_binding 36 = .ok (.iload_n 1, 1) := by decide +kernel
theorem dX12_binding_37 : decode cX12_binding 37 = .ok (.iaload, 1) := by decide +kernel
theorem dX12_binding_38 : decode cX12_binding 38 = .ok (.iconst 3, 1) := by decide +kernel
theorem dX12_binding_39 : decode cX12_binding 39 = .ok (.if_icmp .ne 12, 3) := by decide +kernel
theorem dX12_binding_42 : decode cX12_binding 42 = .ok (.aload_n 0, 1) := by decide +kernel
theorem dX12_binding_43 : decode cX12_binding 43 = .ok (.iload_n 1, 1) := by decide +kernel
theorem dX12_binding_44 : decode cX12_binding 44 = .ok (.iload_n 2, 1) := by decide +kernel
theorem dX12_binding_45 : decode cX12_binding 45 = .ok (.invokevirtual 413, 3) := by decide +kernel
theorem dX12_binding_48 : decode cX12_binding 48 = .ok (.goto 9, 3) := by decide +kernel
theorem dX12_binding_51 : decode cX12_binding 51 = .ok (.aload_n 0, 1) := by decide +kernel
theorem dX12_binding_52 : decode cX12_binding 52 = .ok (.iload_n 1, 1) := by decide +kernel
theorem dX12_binding_53 : decode cX12_binding 53 = .ok (.iload_n 2, 1) := by decide +kernel
theorem dX12_binding_54 : decode cX12_binding 54 = .ok (.invokevirtual 410, 3) := by decide +kernel
theorem dX12_binding_57 : decode cX12_binding 57 = .ok (.ireturn, 1) := by decide +kernel
theorem dX12_plainTells_0 : decode cX12_plainTells 0 = .ok (.aload_n 0, 1) := by decide +kernel
theorem dX12_plainTells_1 : decode cX12_plainTells 1 = .ok (.iconst 2, 1) := by decide +kernel
theorem dX12_plainTells_2 : decode cX12_plainTells 2 = .ok (.invokevirtual 386, 3) := by decide +kernel
theorem dX12_plainTells_5 : decode cX12_plainTells 5 = .ok (.aload_n 0, 1) := by decide +kernel
theorem dX12_plainTells_6 : decode cX12_plainTells 6 = .ok (.iload_n 1, 1) := by decide +kernel
theorem dX12_plainTells_7 : decode cX12_plainTells 7 = .ok (.iload_n 2, 1) := by decide +kernel
theorem dX12_plainTells_8 : decode cX12_plainTells 8 = .ok (.invokevirtual 416, 3) := by decide +kernel
theorem dX12_plainTells_11 : decode cX12_plainTells 11 = .ok (.istore_n 3, 1) := by decide +kernel
theorem dX12_plainTells_12 : decode cX12_plainTells 12 = .ok (.iload_n 3, 1) := by decide +kernel
theorem dX12_plainTells_13 : decode cX12_plainTells 13 = .ok (.aload_n 0, 1) := by decide +kernel
theorem dX12_plainTells_14 : decode cX12_plainTells 14 = .ok (.iload_n 1, 1) := by decide +kernel
theorem dX12_plainTells_15 : decode cX12_plainTells 15 = .ok (.iconst 1, 1) := by decide +kernel
theorem dX12_plainTells_16 : decode cX12_plainTells 16 = .ok (.invokevirtual 407, 3) := by decide +kernel
theorem dX12_plainTells_19 : decode cX12_plainTells 19 = .ok (.isub, 1) := by decide +kernel
theorem dX12_plainTells_20 : decode cX12_plainTells 20 = .ok (.ireturn, 1) := by decide +kernel
theorem dX12_telling_0 : decode cX12_telling 0 = .ok (.aload_n 0, 1) := by decide +kernel
theorem dX12_telling_1 : decode cX12_telling 1 = .ok (.getfield 99, 3) := by decide +kernel
theorem dX12_telling_4 : decode cX12_telling 4 = .ok (.iload_n 1, 1) := by decide +kernel
theorem dX12_telling_5 : decode cX12_telling 5 = .ok (.iaload, 1) := by decide +kernel
theorem dX12_telling_6 : decode cX12_telling 6 = .ok (.iconst 4, 1) := by decide +kernel
theorem dX12_telling_7 : decode cX12_telling 7 = .ok (.if_icmp .ne 18, 3) := by decide +kernel
theorem dX12_telling_10 : decode cX12_telling 10 = .ok (.aload_n 0, 1) := by decide +kernel
theorem dX12_telling_11 : decode cX12_telling 11 = .ok (.bipush 50, 2) := by decide +kernel
theorem dX12_telling_13 : decode cX12_telling 13 = .ok (.invokevirtual 386, 3) := by decide +kernel
theorem dX12_telling_16 : decode cX12_telling 16 = .ok (.aload_n 0, 1) := by decide +kernel
theorem dX12_telling_17 : decode cX12_telling 17 = .ok (.iload_n 1, 1) := by decide +kernel
theorem dX12_telling_18 : decode cX12_telling 18 = .ok (.iload_n 2, 1) := by decide +kernel
theorem dX12_telling_19 : decode cX12_telling 19 = .ok (.invokevirtual 419, 3) := by decide +kernel
theorem dX12_telling_22 : decode cX12_telling 22 = .ok (.iconst 5, 1) := by decide +kernel
theorem dX12_telling_23 : decode cX12_telling 23 = .ok (.ixor, 1) := by decide +kernel
theorem dX12_telling_24 : decode cX12_telling 24 = .ok (.ireturn, 1) := by decide +kernel
theorem dX12_telling_25 : decode cX12_telling 25 = .ok (.aload_n 0, 1) := by decide +kernel
theorem dX12_telling_26 : decode cX12_telling 26 = .ok (.getfield 99, 3) := by decide +kernel
theorem dX12_telling_29 : decode cX12_telling 29 = .ok (.iload_n 1, 1) := by decide +kernel
theorem dX12_telling_30 : decode cX12_telling 30 = .ok (.iaload, 1) := by decide +kernel
theorem dX12_telling_31 : decode cX12_telling 31 = .ok (.iconst 5, 1) := by decide +kernel
theorem dX12_telling_32 : decode cX12_telling 32 = .ok (.if_icmp .ne 18, 3) := by decide +kernel
theorem dX12_telling_35 : decode cX12_telling 35 = .ok (.aload_n 0, 1) := by decide +kernel
theorem dX12_telling_36 : decode cX12_telling 36 = .ok (.bipush 61, 2) := by decide +kernel
theorem dX12_telling_38 : decode cX12_telling 38 = .ok (.invokevirtual 386, 3) := by decide +kernel
theorem dX12_telling_41 : decode cX12_telling 41 = .ok (.aload_n 0, 1) := by decide +kernel
theorem dX12_telling_42 : decode cX12_telling 42 = .ok (.iload_n 1, 1) := by decide +kernel
theorem dX12_telling_43 : decode cX12_telling 43 = .ok (.iload_n 2, 1) := by decide +kernel
theorem dX12_telling_44 : decode cX12_telling 44 = .ok (.invokevirtual 419, 3) := by decide +kernel
theorem dX12_telling_47 : decode cX12_telling 47 = .ok (.iconst 1, 1) := by decide +kernel
theorem dX12_telling_48 : decode cX12_telling 48 = .ok (.iadd, 1) := by decide +kernel
theorem dX12_telling_49 : decode cX12_telling 49 = .ok (.ireturn, 1) := by decide +kernel
theorem dX12_telling_50 : decode cX12_telling 50 = .ok (.aload_n 0, 1) := by decide +kernel
theorem dX12_telling_51 : decode cX12_telling 51 = .ok (.iload_n 1, 1) := by decide +kernel
theorem dX12_telling_52 : decode cX12_telling 52 = .ok (.iload_n 2, 1) := by decide +kernel
theorem dX12_telling_53 : decode cX12_telling 53 = .ok (.invokevirtual 419, 3) := by decide +kernel
theorem dX12_telling_56 : decode cX12_telling 56 = .ok (.ireturn, 1) := by decide +kernel
theorem dX12_act_0 : decode cX12_act 0 = .ok (.aload_n 0, 1) := by decide +kernel
theorem dX12_act_1 : decode cX12_act 1 = .ok (.iconst 0, 1) := by decide +kernel
theorem dX12_act_2 : decode cX12_act 2 = .ok (.putfield 383, 3) := by decide +kernel
theorem dX12_act_5 : decode cX12_act 5 = .ok (.aload_n 0, 1) := by decide +kernel
theorem dX12_act_6 : decode cX12_act 6 = .ok (.iload_n 1, 1) := by decide +kernel
theorem dX12_act_7 : decode cX12_act 7 = .ok (.invokevirtual 422, 3) := by decide +kernel
theorem dX12_act_10 : decode cX12_act 10 = .ok (.ifCond .eq 12, 3) := by decide +kernel
theorem dX12_act_13 : decode cX12_act 13 = .ok (.iload_n 2, 1) := by decide +kernel
theorem dX12_act_14 : decode cX12_act 14 = .ok (.iconst 0, 1) := by decide +kernel
theorem dX12_act_15 : decode cX12_act 15 = .ok (.iconst 3, 1) := by decide +kernel
theorem dX12_act_16 : decode cX12_act 16 = .ok (.invokestatic 125, 3) := by decide +kernel
theorem dX12_act_19 : decode cX12_act 19 = .ok (.ifCond .ne 5, 3) := by decide +kernel
theorem dX12_act_22 : decode cX12_act 22 = .ok (.iconst 0, 1) := by decide +kernel
theorem dX12_act_23 : decode cX12_act 23 = .ok (.ireturn, 1) := by decide +kernel
theorem dX12_act_24 : decode cX12_act 24 = .ok (.iload_n 2, 1) := by decide +kernel
theorem dX12_act_25 : decode cX12_act 25 = .ok (.ifCond .ne 12, 3) := by decide +kernel
theorem dX12_act_28 : decode cX12_act 28 = .ok (.aload_n 0, 1) := by decide +kernel
theorem dX12_act_29 : decode cX12_act 29 = .ok (.iload_n 1, 1) := by decide +kernel
theorem dX12_act_30 : decode cX12_act 30 = .ok (.iload_n 3, 1) := by decide +kernel
theorem dX12_act_31 : decode cX12_act 31 = .ok (.invokevirtual 398, 3) := by decide +kernel
theorem dX12_act_34 : decode cX12_act 34 = .ok (.goto 37, 3) := by decide +kernel
theorem dX12_act_37 : decode cX12_act 37 = .ok (.iload_n 2, 1) := by decide +kernel
theorem dX12_act_38 : decode cX12_act 38 = .ok (.iconst 1, 1) := by decide +kernel
theorem dX12_act_39 : decode cX12_act 39 = .ok (.if_icmp .ne 12, 3) := by decide +kernel
theorem dX12_act_42 : decode cX12_act 42 = .ok (.aload_n 0, 1) := by decide +kernel
theorem dX12_act_43 : decode cX12_act 43 = .ok (.iload_n 1, 1) := by decide +kernel
theorem dX12_act_44 : decode cX12_act 44 = .ok (.iload_n 3, 1) := by decide +kernel
theorem dX12_act_45 : decode cX12_act 45 = .ok (.invokevirtual 416, 3) := by decide +kernel
theorem dX12_act_48 : decode cX12_act 48 = .ok (.goto 23, 3) := by decide +kernel
theorem dX12_act_51 : decode cX12_act 51 = .ok (.iload_n 2, 1) := by decide +kernel
theorem dX12_act_52 : decode cX12_act 52 = .ok (.iconst 2, 1) := by decide +kernel
theorem dX12_act_53 : decode cX12_act 53 = .ok (.if_icmp .ne 12, 3) := by decide +kernel
theorem dX12_act_56 : decode cX12_act 56 = .ok (.aload_n 0, 1) := by decide +kernel
theorem dX12_act_57 : decode cX12_act 57 = .ok (.iload_n 1, 1) := by decide +kernel
theorem dX12_act_58 : decode cX12_act 58 = .ok (.iload_n 3, 1) := by decide +kernel
theorem dX12_act_59 : decode cX12_act 59 = .ok (.invokevirtual 407, 3) := by decide +kernel
theorem dX12_act_62 : decode cX12_act 62 = .ok (.goto 9, 3) := by decide +kernel
theorem dX12_act_65 : decode cX12_act 65 = .ok (.aload_n 0, 1) := by decide +kernel
theorem dX12_act_66 : decode cX12_act 66 = .ok (.iload_n 1, 1) := by decide +kernel
theorem dX12_act_67 : decode cX12_act 67 = .ok (.iload_n 3, 1) := by decide +kernel
theorem dX12_act_68 : decode cX12_act 68 = .ok (.invokevirtual 425, 3) := by decide +kernel
theorem dX12_act_71 : decode cX12_act 71 = .ok (.ireturn, 1) := by decide +kernel
theorem dX12_count_0 : decode cX12_count 0 = .ok (.iload_n 1, 1) := by decide +kernel
theorem dX12_count_1 : decode cX12_count 1 = .ok (.tableswitch 73 0 5 #[39, 44, 53, 58, 63, 68], 39) := by decide +kernel
theorem dX12_count_40 : decode cX12_count 40 = .ok (.aload_n 0, 1) := by decide +kernel
theorem dX12_count_41 : decode cX12_count 41 = .ok (.getfield 122, 3) := by decide +kernel
theorem dX12_count_44 : decode cX12_count 44 = .ok (.ireturn, 1) := by decide +kernel
theorem dX12_count_45 : decode cX12_count 45 = .ok (.aload_n 0, 1) := by decide +kernel
theorem dX12_count_46 : decode cX12_count 46 = .ok (.invokevirtual 257, 3) := by decide +kernel
theorem dX12_count_49 : decode cX12_count 49 = .ok (.aload_n 0, 1) := by decide +kernel
theorem dX12_count_50 : decode cX12_count 50 = .ok (.invokevirtual 241, 3) := by decide +kernel
theorem dX12_count_53 : decode cX12_count 53 = .ok (.ireturn, 1) := by decide +kernel
theorem dX12_count_54 : decode cX12_count 54 = .ok (.aload_n 0, 1) := by decide +kernel
theorem dX12_count_55 : decode cX12_count 55 = .ok (.getfield 164, 3) := by decide +kernel
theorem dX12_count_58 : decode cX12_count 58 = .ok (.ireturn, 1) := by decide +kernel
theorem dX12_count_59 : decode cX12_count 59 = .ok (.aload_n 0, 1) := by decide +kernel
theorem dX12_count_60 : decode cX12_count 60 = .ok (.getfield 149, 3) := by decide +kernel
theorem dX12_count_63 : decode cX12_count 63 = .ok (.ireturn, 1) := by decide +kernel
theorem dX12_count_64 : decode cX12_count 64 = .ok (.aload_n 0, 1) := by decide +kernel
theorem dX12_count_65 : decode cX12_count 65 = .ok (.getfield 380, 3) := by decide +kernel
theorem dX12_count_68 : decode cX12_count 68 = .ok (.ireturn, 1) := by decide +kernel
theorem dX12_count_69 : decode cX12_count 69 = .ok (.aload_n 0, 1) := by decide +kernel
theorem dX12_count_70 : decode cX12_count 70 = .ok (.getfield 383, 3) := by decide +kernel
theorem dX12_count_73 : decode cX12_count 73 = .ok (.ireturn, 1) := by decide +kernel
theorem dX12_count_74 : decode cX12_count 74 = .ok (.iconst (-1), 1) := by decide +kernel
theorem dX12_count_75 : decode cX12_count 75 = .ok (.ireturn, 1) := by decide +kernel
theorem dX12_isShelf_0 : decode cX12_isShelf 0 = .ok (.iload_n 0, 1) := by decide +kernel
theorem dX12_isShelf_1 : decode cX12_isShelf 1 = .ok (.iconst 0, 1) := by decide +kernel
theorem dX12_isShelf_2 : decode cX12_isShelf 2 = .ok (.iconst 5, 1) := by decide +kernel
theorem dX12_isShelf_3 : decode cX12_isShelf 3 = .ok (.invokestatic 125, 3) := by decide +kernel
theorem dX12_isShelf_6 : decode cX12_isShelf 6 = .ok (.ireturn, 1) := by decide +kernel
theorem dX12_keep_0 : decode cX12_keep 0 = .ok (.iload_n 1, 1) := by decide +kernel
theorem dX12_keep_1 : decode cX12_keep 1 = .ok (.invokestatic 137, 3) := by decide +kernel
theorem dX12_keep_4 : decode cX12_keep 4 = .ok (.ifCond .eq 16, 3) := by decide +kernel
theorem dX12_keep_7 : decode cX12_keep 7 = .ok (.iload_n 2, 1) := by decide +kernel
theorem dX12_keep_8 : decode cX12_keep 8 = .ok (.iconst (-1), 1) := by decide +kernel
theorem dX12_keep_9 : decode cX12_keep 9 = .ok (.if_icmp .eq 13, 3) := by decide +kernel
theorem dX12_keep_12 : decode cX12_keep 12 = .ok (.aload_n 0, 1) := by decide +kernel
theorem dX12_keep_13 : decode cX12_keep 13 = .ok (.iload_n 2, 1) := by decide +kernel
theorem dX12_keep_14 : decode cX12_keep 14 = .ok (.invokevirtual 422, 3) := by decide +kernel
theorem dX12_keep_17 : decode cX12_keep 17 = .ok (.ifCond .ne 5, 3) := by decide +kernel
theorem dX12_keep_20 : decode cX12_keep 20 = .ok (.iconst (-1), 1) := by decide +kernel
theorem dX12_keep_21 : decode cX12_keep 21 = .ok (.ireturn, 1) := by decide +kernel
theorem dX12_keep_22 : decode cX12_keep 22 = .ok (.aload_n 0, 1) := by decide +kernel
theorem dX12_keep_23 : decode cX12_keep 23 = .ok (.getfield 105, 3) := by decide +kernel
theorem dX12_keep_26 : decode cX12_keep 26 = .ok (.iload_n 1, 1) := by decide +kernel
theorem dX12_keep_27 : decode cX12_keep 27 = .ok (.iload_n 2, 1) := by decide +kernel
theorem dX12_keep_28 : decode cX12_keep 28 = .ok (.iastore, 1) := by decide +kernel
theorem dX12_keep_29 : decode cX12_keep 29 = .ok (.iconst 1, 1) := by decide +kernel
theorem dX12_keep_30 : decode cX12_keep 30 = .ok (.ireturn, 1) := by decide +kernel
theorem dX12_row_0 : decode cX12_row 0 = .ok (.iload_n 1, 1) := by decide +kernel
theorem dX12_row_1 : decode cX12_row 1 = .ok (.invokestatic 137, 3) := by decide +kernel
theorem dX12_row_4 : decode cX12_row 4 = .ok (.ifCond .eq 18, 3) := by decide +kernel
theorem dX12_row_7 : decode cX12_row 7 = .ok (.iload_n 2, 1) := by decide +kernel
theorem dX12_row_8 : decode cX12_row 8 = .ok (.iconst 0, 1) := by decide +kernel
theorem dX12_row_9 : decode cX12_row 9 = .ok (.iconst 4, 1) := by decide +kernel
theorem dX12_row_10 : decode cX12_row 10 = .ok (.invokestatic 125, 3) := by decide +kernel
theorem dX12_row_13 : decode cX12_row 13 = .ok (.ifCond .eq 9, 3) := by decide +kernel
theorem dX12_row_16 : decode cX12_row 16 = .ok (.iload_n 3, 1) := by decide +kernel
theorem dX12_row_17 : decode cX12_row 17 = .ok (.bipush 60, 2) := by decide +kernel
theorem dX12_row_19 : decode cX12_row 19 = .ok (.if_icmp .le 5, 3) := by decide +kernel
theorem dX12_row_22 : decode cX12_row 22 = .ok (.iconst (-1), 1) := by decide +kernel
theorem dX12_row_23 : decode cX12_row 23 = .ok (.ireturn, 1) := by decide +kernel
theorem dX12_row_24 : decode cX12_row 24 = .ok (.iload_n 3, 1) := by decide +kernel
theorem dX12_row_25 : decode cX12_row 25 = .ok (.ifCond .ge 6, 3) := by decide +kernel
theorem dX12_row_28 : decode cX12_row 28 = .ok (.bipush (-14), 2) := by decide +kernel
theorem dX12_row_30 : decode cX12_row 30 = .ok (.ireturn, 1) := by decide +kernel
theorem dX12_row_31 : decode cX12_row 31 = .ok (.aload_n 0, 1) := by decide +kernel
theorem dX12_row_32 : decode cX12_row 32 = .ok (.getfield 105, 3) := by decide +kernel
theorem dX12_row_35 : decode cX12_row 35 = .ok (.iload_n 1, 1) := by decide +kernel
theorem dX12_row_36 : decode cX12_row 36 = .ok (.bipush (-2), 2) := by decide +kernel
theorem dX12_row_38 : decode cX12_row 38 = .ok (.iload_n 2, 1) := by decide +kernel
theorem dX12_row_39 : decode cX12_row 39 = .ok (.isub, 1) := by decide +kernel
theorem dX12_row_40 : decode cX12_row 40 = .ok (.iastore, 1) := by decide +kernel
theorem dX12_row_41 : decode cX12_row 41 = .ok (.aload_n 0, 1) := by decide +kernel
theorem dX12_row_42 : decode cX12_row 42 = .ok (.getfield 108, 3) := by decide +kernel
theorem dX12_row_45 : decode cX12_row 45 = .ok (.iload_n 1, 1) := by decide +kernel
theorem dX12_row_46 : decode cX12_row 46 = .ok (.iload_n 3, 1) := by decide +kernel
theorem dX12_row_47 : decode cX12_row 47 = .ok (.iastore, 1) := by decide +kernel
theorem dX12_row_48 : decode cX12_row 48 = .ok (.bipush 60, 2) := by decide +kernel
theorem dX12_row_50 : decode cX12_row 50 = .ok (.iload_n 1, 1) := by decide +kernel
theorem dX12_row_51 : decode cX12_row 51 = .ok (.imul, 1) := by decide +kernel
theorem dX12_row_52 : decode cX12_row 52 = .ok (.istore 4, 2) := by decide +kernel
theorem dX12_row_54 : decode cX12_row 54 = .ok (.iload 4, 2) := by decide +kernel
theorem dX12_row_56 : decode cX12_row 56 = .ok (.bipush 60, 2) := by decide +kernel
theorem dX12_row_58 : decode cX12_row 58 = .ok (.iload_n 1, 1) := by decide +kernel
theorem dX12_row_59 : decode cX12_row 59 = .ok (.imul, 1) := by decide +kernel
theorem dX12_row_60 : decode cX12_row 60 = .ok (.bipush 60, 2) := by decide +kernel
theorem dX12_row_62 : decode cX12_row 62 = .ok (.iadd, 1) := by decide +kernel
theorem dX12_row_63 : decode cX12_row 63 = .ok (.if_icmp .ge 17, 3) := by decide +kernel
theorem dX12_row_66 : decode cX12_row 66 = .ok (.aload_n 0, 1) := by decide +kernel
theorem dX12_row_67 : decode cX12_row 67 = .ok (.getfield 111, 3) := by decide +kernel
theorem dX12_row_70 : decode cX12_row 70 = .ok (.iload 4, 2) := by decide +kernel
theorem dX12_row_72 : decode cX12_row 72 = .ok (.lconst 0, 1) := by decide +kernel
theorem dX12_row_73 : decode cX12_row 73 = .ok (.lastore, 1) := by decide +kernel
theorem dX12_row_74 : decode cX12_row 74 = .ok (.iinc 4 1, 3) := by decide +kernel
theorem dX12_row_77 : decode cX12_row 77 = .ok (.goto (-23), 3) := by decide +kernel
theorem dX12_row_80 : decode cX12_row 80 = .ok (.iconst 1, 1) := by decide +kernel
theorem dX12_row_81 : decode cX12_row 81 = .ok (.ireturn, 1) := by decide +kernel
theorem dX12_whyNoPlace_0 : decode cX12_whyNoPlace 0 = .ok (.iload_n 1, 1) := by decide +kernel
theorem dX12_whyNoPlace_1 : decode cX12_whyNoPlace 1 = .ok (.invokestatic 137, 3) := by decide +kernel
theorem dX12_whyNoPlace_4 : decode cX12_whyNoPlace 4 = .ok (.ifCond .ne 5, 3) := by decide +kernel
theorem dX12_whyNoPlace_7 : decode cX12_whyNoPlace 7 = .ok (.iconst (-1), 1) := by decide +kernel
theorem dX12_whyNoPlace_8 : decode cX12_whyNoPlace 8 = .ok (.ireturn, 1) := by decide +kernel
theorem dX12_whyNoPlace_9 : decode cX12_whyNoPlace 9 = .ok (.aload_n 0, 1) := by decide +kernel
theorem dX12_whyNoPlace_10 : decode cX12_whyNoPlace 10 = .ok (.getfield 105, 3) := by decide +kernel
theorem dX12_whyNoPlace_13 : decode cX12_whyNoPlace 13 = .ok (.iload_n 1, 1) := by decide +kernel
theorem dX12_whyNoPlace_14 : decode cX12_whyNoPlace 14 = .ok (.iaload, 1) := by decide +kernel
theorem dX12_whyNoPlace_15 : decode cX12_whyNoPlace 15 = .ok (.iconst (-1), 1) := by decide +kernel
theorem dX12_whyNoPlace_16 : decode cX12_whyNoPlace 16 = .ok (.if_icmp .ne 6, 3) := by decide +kernel
theorem dX12_whyNoPlace_19 : decode cX12_whyNoPlace 19 = .ok (.bipush (-11), 2) := by decide +kernel
theorem dX12_whyNoPlace_21 : decode cX12_whyNoPlace 21 = .ok (.ireturn, 1) := by decide +kernel
theorem dX12_whyNoPlace_22 : decode cX12_whyNoPlace 22 = .ok (.aload_n 0, 1) := by decide +kernel
theorem dX12_whyNoPlace_23 : decode cX12_whyNoPlace 23 = .ok (.getfield 105, 3) := by decide +kernel
theorem dX12_whyNoPlace_26 : decode cX12_whyNoPlace 26 = .ok (.iload_n 1, 1) := by decide +kernel
theorem dX12_whyNoPlace_27 : decode cX12_whyNoPlace 27 = .ok (.iaload, 1) := by decide +kernel
theorem dX12_whyNoPlace_28 : decode cX12_whyNoPlace 28 = .ok (.ifCond .lt 6, 3) := by decide +kernel
theorem dX12_whyNoPlace_31 : decode cX12_whyNoPlace 31 = .ok (.bipush (-12), 2) := by decide +kernel
theorem dX12_whyNoPlace_33 : decode cX12_whyNoPlace 33 = .ok (.ireturn, 1) := by decide +kernel
theorem dX12_whyNoPlace_34 : decode cX12_whyNoPlace 34 = .ok (.iload_n 2, 1) := by decide +kernel
theorem dX12_whyNoPlace_35 : decode cX12_whyNoPlace 35 = .ok (.iconst 0, 1) := by decide +kernel
theorem dX12_whyNoPlace_36 : decode cX12_whyNoPlace 36 = .ok (.aload_n 0, 1) := by decide +kernel
theorem dX12_whyNoPlace_37 : decode cX12_whyNoPlace 37 = .ok (.getfield 108, 3) := by decide +kernel
theorem dX12_whyNoPlace_40 : decode cX12_whyNoPlace 40 = .ok (.iload_n 1, 1) := by decide +kernel
theorem dX12_whyNoPlace_41 : decode cX12_whyNoPlace 41 = .ok (.iaload, 1) := by decide +kernel
theorem dX12_whyNoPlace_42 : decode cX12_whyNoPlace 42 = .ok (.iconst 1, 1) := by decide +kernel
theorem dX12_whyNoPlace_43 : decode cX12_whyNoPlace 43 = .ok (.isub, 1) := by decide +kernel
theorem dX12_whyNoPlace_44 : decode cX12_whyNoPlace 44 = .ok (.invokestatic 125, 3) := by decide +kernel
theorem dX12_whyNoPlace_47 : decode cX12_whyNoPlace 47 = .ok (.ifCond .eq 7, 3) := by decide +kernel
theorem dX12_whyNoPlace_50 : decode cX12_whyNoPlace 50 = .ok (.iconst 0, 1) := by decide +kernel
theorem dX12_whyNoPlace_51 : decode cX12_whyNoPlace 51 = .ok (.goto 5, 3) := by decide +kernel
theorem dX12_whyNoPlace_54 : decode cX12_whyNoPlace 54 = .ok (.bipush (-13), 2) := by decide +kernel
theorem dX12_whyNoPlace_56 : decode cX12_whyNoPlace 56 = .ok (.ireturn, 1) := by decide +kernel
theorem dX12_put_0 : decode cX12_put 0 = .ok (.aload_n 0, 1) := by decide +kernel
theorem dX12_put_1 : decode cX12_put 1 = .ok (.iload_n 1, 1) := by decide +kernel
theorem dX12_put_2 : decode cX12_put 2 = .ok (.iload_n 2, 1) := by decide +kernel
theorem dX12_put_3 : decode cX12_put 3 = .ok (.invokevirtual 428, 3) := by decide +kernel
theorem dX12_put_6 : decode cX12_put 6 = .ok (.istore 5, 2) := by decide +kernel
theorem dX12_put_8 : decode cX12_put 8 = .ok (.iload 5, 2) := by decide +kernel
theorem dX12_put_10 : decode cX12_put 10 = .ok (.ifCond .ge 6, 3) := by decide +kernel
theorem dX12_put_13 : decode cX12_put 13 = .ok (.iload 5, 2) := by decide +kernel
theorem dX12_put_15 : decode cX12_put 15 = .ok (.ireturn, 1) := by decide +kernel
theorem dX12_put_16 : decode cX12_put 16 = .ok (.bipush (-2), 2) := by decide +kernel
theorem dX12_put_18 : decode cX12_put 18 = .ok (.aload_n 0, 1) := by decide +kernel
theorem dX12_put_19 : decode cX12_put 19 = .ok (.getfield 105, 3) := by decide +kernel
theorem dX12_put_22 : decode cX12_put 22 = .ok (.iload_n 1, 1) := by decide +kernel
theorem dX12_put_23 : decode cX12_put 23 = .ok (.iaload, 1) := by decide +kernel
theorem dX12_put_24 : decode cX12_put 24 = .ok (.isub, 1) := by decide +kernel
theorem dX12_put_25 : decode cX12_put 25 = .ok (.istore 6, 2) := by decide +kernel
theorem dX12_put_27 : decode cX12_put 27 = .ok (.aload_n 0, 1) := by decide +kernel
theorem dX12_put_28 : decode cX12_put 28 = .ok (.getfield 111, 3) := by decide +kernel
theorem dX12_put_31 : decode cX12_put 31 = .ok (.bipush 60, 2) := by decide +kernel
theorem dX12_put_33 : decode cX12_put 33 = .ok (.iload_n 1, 1) := by decide +kernel
theorem dX12_put_34 : decode cX12_put 34 = .ok (.imul, 1) := by decide +kernel
theorem dX12_put_35 : decode cX12_put 35 = .ok (.iload_n 2, 1) := by decide +kernel
theorem dX12_put_36 : decode cX12_put 36 = .ok (.iadd, 1) := by decide +kernel
theorem dX12_put_37 : decode cX12_put 37 = .ok (.iload 6, 2) := by decide +kernel
theorem dX12_put_39 : decode cX12_put 39 = .ok (.ifCond .ne 10, 3) := by decide +kernel
theorem dX12_put_42 : decode cX12_put 42 = .ok (.lload_n 3, 1) := by decide +kernel
theorem dX12_put_43 : decode cX12_put 43 = .ok (.l2i, 1) := by decide +kernel
theorem dX12_put_44 : decode cX12_put 44 = .ok (.i2b, 1) := by decide +kernel
theorem dX12_put_45 : decode cX12_put 45 = .ok (.i2l, 1) := by decide +kernel
theorem dX12_put_46 : decode cX12_put 46 = .ok (.goto 49, 3) := by decide +kernel
theorem dX12_put_49 : decode cX12_put 49 = .ok (.iload 6, 2) := by decide +kernel
theorem dX12_put_51 : decode cX12_put 51 = .ok (.iconst 1, 1) := by decide +kernel
theorem dX12_put_52 : decode cX12_put 52 = .ok (.if_icmp .ne 10, 3) := by decide +kernel
theorem dX12_put_55 : decode cX12_put 55 = .ok (.lload_n 3, 1) := by decide +kernel
theorem dX12_put_56 : decode cX12_put 56 = .ok (.l2i, 1) := by decide +kernel
theorem dX12_put_57 : decode cX12_put 57 = .ok (.i2s, 1) := by decide +kernel
theorem dX12_put_58 : decode cX12_put 58 = .ok (.i2l, 1) := by decide +kernel
theorem dX12_put_59 : decode cX12_put 59 = .ok (.goto 36, 3) := by decide +kernel
theorem dX12_put_62 : decode cX12_put 62 = .ok (.iload 6, 2) := by decide +kernel
theorem dX12_put_64 : decode cX12_put 64 = .ok (.iconst 2, 1) := by decide +kernel
theorem dX12_put_65 : decode cX12_put 65 = .ok (.if_icmp .ne 9, 3) := by decide +kernel
theorem dX12_put_68 : decode cX12_put 68 = .ok (.lload_n 3, 1) := by decide +kernel
theorem dX12_put_69 : decode cX12_put 69 = .ok (.l2i, 1) := by decide +kernel
theorem dX12_put_70 : decode cX12_put 70 = .ok (.i2l, 1) := by decide +kernel
theorem dX12_put_71 : decode cX12_put 71 = .ok (.goto 24, 3) := by decide +kernel
theorem dX12_put_74 : decode cX12_put 74 = .ok (.iload 6, 2) := by decide +kernel
theorem dX12_put_76 : decode cX12_put 76 = .ok (.iconst 3, 1) := by decide +kernel
theorem dX12_put_77 : decode cX12_put 77 = .ok (.if_icmp .ne 7, 3) := by decide +kernel
theorem dX12_put_80 : decode cX12_put 80 = .ok (.lload_n 3, 1) := by decide +kernel
theorem dX12_put_81 : decode cX12_put 81 = .ok (.goto 14, 3) := by decide +kernel
theorem dX12_put_84 : decode cX12_put 84 = .ok (.lload_n 3, 1) := by decide +kernel
theorem dX12_put_85 : decode cX12_put 85 = .ok (.lconst 0, 1) := by decide +kernel
theorem dX12_put_86 : decode cX12_put 86 = .ok (.lcmp, 1) := by decide +kernel
theorem dX12_put_87 : decode cX12_put 87 = .ok (.ifCond .eq 7, 3) := by decide +kernel
theorem dX12_put_90 : decode cX12_put 90 = .ok (.lconst 1, 1) := by decide +kernel
theorem dX12_put_91 : decode cX12_put 91 = .ok (.goto 4, 3) := by decide +kernel
theorem dX12_put_94 : decode cX12_put 94 = .ok (.lconst 0, 1) := by decide +kernel
theorem dX12_put_95 : decode cX12_put 95 = .ok (.lastore, 1) := by decide +kernel
theorem dX12_put_96 : decode cX12_put 96 = .ok (.iconst 1, 1) := by decide +kernel
theorem dX12_put_97 : decode cX12_put 97 = .ok (.ireturn, 1) := by decide +kernel
theorem dX12_element_0 : decode cX12_element 0 = .ok (.aload_n 0, 1) := by decide +kernel
theorem dX12_element_1 : decode cX12_element 1 = .ok (.iload_n 1, 1) := by decide +kernel
theorem dX12_element_2 : decode cX12_element 2 = .ok (.iload_n 2, 1) := by decide +kernel
theorem dX12_element_3 : decode cX12_element 3 = .ok (.invokevirtual 428, 3) := by decide +kernel
theorem dX12_element_6 : decode cX12_element 6 = .ok (.ifCond .ge 9, 3) := by decide +kernel
theorem dX12_element_9 : decode cX12_element 9 = .ok (.ldc2_w 287, 3) := by decide +kernel
theorem dX12_element_12 : decode cX12_element 12 = .ok (.goto 14, 3) := by decide +kernel
theorem dX12_element_15 : decode cX12_element 15 = .ok (.aload_n 0, 1) := by decide +kernel
theorem dX12_element_16 : decode cX12_element 16 = .ok (.getfield 111, 3) := by decide +kernel
theorem dX12_element_19 : decode cX12_element 19 = .ok (.bipush 60, 2) := by decide +kernel
theorem dX12_element_21 : decode cX12_element 21 = .ok (.iload_n 1, 1) := by decide +kernel
theorem dX12_element_22 : decode cX12_element 22 = .ok (.imul, 1) := by decide +kernel
theorem dX12_element_23 : decode cX12_element 23 = .ok (.iload_n 2, 1) := by decide +kernel
theorem dX12_element_24 : decode cX12_element 24 = .ok (.iadd, 1) := by decide +kernel
theorem dX12_element_25 : decode cX12_element 25 = .ok (.laload, 1) := by decide +kernel
theorem dX12_element_26 : decode cX12_element 26 = .ok (.lreturn, 1) := by decide +kernel
theorem dX12_shift_0 : decode cX12_shift 0 = .ok (.iload_n 1, 1) := by decide +kernel
theorem dX12_shift_1 : decode cX12_shift 1 = .ok (.invokestatic 137, 3) := by decide +kernel
theorem dX12_shift_4 : decode cX12_shift 4 = .ok (.ifCond .eq 10, 3) := by decide +kernel
theorem dX12_shift_7 : decode cX12_shift 7 = .ok (.iload_n 3, 1) := by decide +kernel
theorem dX12_shift_8 : decode cX12_shift 8 = .ok (.invokestatic 137, 3) := by decide +kernel
theorem dX12_shift_11 : decode cX12_shift 11 = .ok (.ifCond .ne 5, 3) := by decide +kernel
theorem dX12_shift_14 : decode cX12_shift 14 = .ok (.iconst (-1), 1) := by decide +kernel
theorem dX12_shift_15 : decode cX12_shift 15 = .ok (.ireturn, 1) := by decide +kernel
theorem dX12_shift_16 : decode cX12_shift 16 = .ok (.aload_n 0, 1) := by decide +kernel
theorem dX12_shift_17 : decode cX12_shift 17 = .ok (.getfield 105, 3) := by decide +kernel
theorem dX12_shift_20 : decode cX12_shift 20 = .ok (.iload_n 1, 1) := by decide +kernel
theorem dX12_shift_21 : decode cX12_shift 21 = .ok (.iaload, 1) := by decide +kernel
theorem dX12_shift_22 : decode cX12_shift 22 = .ok (.iconst (-1), 1) := by decide +kernel
theorem dX12_shift_23 : decode cX12_shift 23 = .ok (.if_icmp .eq 13, 3) := by decide +kernel
theorem dX12_shift_26 : decode cX12_shift 26 = .ok (.aload_n 0, 1) := by decide +kernel
theorem dX12_shift_27 : decode cX12_shift 27 = .ok (.getfield 105, 3) := by decide +kernel
theorem dX12_shift_30 : decode cX12_shift 30 = .ok (.iload_n 3, 1) := by decide +kernel
theorem dX12_shift_31 : decode cX12_shift 31 = .ok (.iaload, 1) := by decide +kernel
theorem dX12_shift_32 : decode cX12_shift 32 = .ok (.iconst (-1), 1) := by decide +kernel
theorem dX12_shift_33 : decode cX12_shift 33 = .ok (.if_icmp .ne 6, 3) := by decide +kernel
theorem dX12_shift_36 : decode cX12_shift 36 = .ok (.bipush (-11), 2) := by decide +kernel
theorem dX12_shift_38 : decode cX12_shift 38 = .ok (.ireturn, 1) := by decide +kernel
theorem dX12_shift_39 : decode cX12_shift 39 = .ok (.aload_n 0, 1) := by decide +kernel
theorem dX12_shift_40 : decode cX12_shift 40 = .ok (.getfield 105, 3) := by decide +kernel
theorem dX12_shift_43 : decode cX12_shift 43 = .ok (.iload_n 1, 1) := by decide +kernel
theorem dX12_shift_44 : decode cX12_shift 44 = .ok (.iaload, 1) := by decide +kernel
theorem dX12_shift_45 : decode cX12_shift 45 = .ok (.ifCond .ge 18, 3) := by decide +kernel
theorem dX12_shift_48 : decode cX12_shift 48 = .ok (.aload_n 0, 1) := by decide +kernel
theorem dX12_shift_49 : decode cX12_shift 49 = .ok (.getfield 105, 3) := by decide +kernel
theorem dX12_shift_52 : decode cX12_shift 52 = .ok (.iload_n 1, 1) := by decide +kernel
theorem dX12_shift_53 : decode cX12_shift 53 = .ok (.iaload, 1) := by decide +kernel
theorem dX12_shift_54 : decode cX12_shift 54 = .ok (.aload_n 0, 1) := by decide +kernel
theorem dX12_shift_55 : decode cX12_shift 55 = .ok (.getfield 105, 3) := by decide +kernel
theorem dX12_shift_58 : decode cX12_shift 58 = .ok (.iload_n 3, 1) := by decide +kernel
theorem dX12_shift_59 : decode cX12_shift 59 = .ok (.iaload, 1) := by decide +kernel
theorem dX12_shift_60 : decode cX12_shift 60 = .ok (.if_icmp .eq 6, 3) := by decide +kernel
theorem dX12_shift_63 : decode cX12_shift 63 = .ok (.bipush (-12), 2) := by decide +kernel
theorem dX12_shift_65 : decode cX12_shift 65 = .ok (.ireturn, 1) := by decide +kernel
theorem dX12_shift_66 : decode cX12_shift 66 = .ok (.iload 5, 2) := by decide +kernel
theorem dX12_shift_68 : decode cX12_shift 68 = .ok (.ifCond .lt 39, 3) := by decide +kernel
theorem dX12_shift_71 : decode cX12_shift 71 = .ok (.iload_n 2, 1) := by decide +kernel
theorem dX12_shift_72 : decode cX12_shift 72 = .ok (.ifCond .lt 35, 3) := by decide +kernel
theorem dX12_shift_75 : decode cX12_shift 75 = .ok (.iload 4, 2) := by decide +kernel
theorem dX12_shift_77 : decode cX12_shift 77 = .ok (.ifCond .lt 30, 3) := by decide +kernel
theorem dX12_shift_80 : decode cX12_shift 80 = .ok (.iload_n 2, 1) := by decide +kernel
theorem dX12_shift_81 : decode cX12_shift 81 = .ok (.aload_n 0, 1) := by decide +kernel
theorem dX12_shift_82 : decode cX12_shift 82 = .ok (.getfield 108, 3) := by decide +kernel
theorem dX12_shift_85 : decode cX12_shift 85 = .ok (.iload_n 1, 1) := by decide +kernel
theorem dX12_shift_86 : decode cX12_shift 86 = .ok (.iaload, 1) := by decide +kernel
theorem dX12_shift_87 : decode cX12_shift 87 = .ok (.iload 5, 2) := by decide +kernel
theorem dX12_shift_89 : decode cX12_shift 89 = .ok (.isub, 1) := by decide +kernel
theorem dX12_shift_90 : decode cX12_shift 90 = .ok (.if_icmp .gt 17, 3) := by decide +kernel
theorem dX12_shift_93 : decode cX12_shift 93 = .ok (.iload 4, 2) := by decide +kernel
theorem dX12_shift_95 : decode cX12_shift 95 = .ok (.aload_n 0, 1) := by decide +kernel
theorem dX12_shift_96 : decode cX12_shift 96 = .ok (.getfield 108, 3) := by decide +kernel
theorem dX12_shift_99 : decode cX12_shift 99 = .ok (.iload_n 3, 1) := by decide +kernel
theorem dX12_shift_100 : decode cX12_shift 100 = .ok (.iaload, 1) := by decide +kernel
theorem dX12_shift_101 : decode cX12_shift 101 = .ok (.iload 5, 2) := by decide +kernel
theorem dX12_shift_103 : decode cX12_shift 103 = .ok (.isub, 1) := by decide +kernel
theorem dX12_shift_104 : decode cX12_shift 104 = .ok (.if_icmp .le 6, 3) := by decide +kernel
theorem dX12_shift_107 : decode cX12_shift 107 = .ok (.bipush (-13), 2) := by decide +kernel
theorem dX12_shift_109 : decode cX12_shift 109 = .ok (.ireturn, 1) := by decide +kernel
theorem dX12_shift_110 : decode cX12_shift 110 = .ok (.iconst 0, 1) := by decide +kernel
theorem dX12_shift_111 : decode cX12_shift 111 = .ok (.istore 6, 2) := by decide +kernel
theorem dX12_shift_113 : decode cX12_shift 113 = .ok (.iload 6, 2) := by decide +kernel
theorem dX12_shift_115 : decode cX12_shift 115 = .ok (.iload 5, 2) := by decide +kernel
theorem dX12_shift_117 : decode cX12_shift 117 = .ok (.if_icmp .ge 30, 3) := by decide +kernel
theorem dX12_shift_120 : decode cX12_shift 120 = .ok (.aload_n 0, 1) := by decide +kernel
theorem dX12_shift_121 : decode cX12_shift 121 = .ok (.getfield 115, 3) := by decide +kernel
theorem dX12_shift_124 : decode cX12_shift 124 = .ok (.iload 6, 2) := by decide +kernel
theorem dX12_shift_126 : decode cX12_shift 126 = .ok (.aload_n 0, 1) := by decide +kernel
theorem dX12_shift_127 : decode cX12_shift 127 = .ok (.getfield 111, 3) := by decide +kernel
theorem dX12_shift_130 : decode cX12_shift 130 = .ok (.bipush 60, 2) := by decide +kernel
theorem dX12_shift_132 : decode cX12_shift 132 = .ok (.iload_n 1, 1) := by decide +kernel
theorem dX12_shift_133 : decode cX12_shift 133 = .ok (.imul, 1) := by decide +kernel
theorem dX12_shift_134 : decode cX12_shift 134 = .ok (.iload_n 2, 1) := by decide +kernel
theorem dX12_shift_135 : decode cX12_shift 135 = .ok (.iadd, 1) := by decide +kernel
theorem dX12_shift_136 : decode cX12_shift 136 = .ok (.iload 6, 2) := by decide +kernel
theorem dX12_shift_138 : decode cX12_shift 138 = .ok (.iadd, 1) := by decide +kernel
theorem dX12_shift_139 : decode cX12_shift 139 = .ok (.laload, 1) := by decide +kernel
theorem dX12_shift_140 : decode cX12_shift 140 = .ok (.lastore, 1) := by decide +kernel
theorem dX12_shift_141 : decode cX12_shift 141 = .ok (.iinc 6 1, 3) := by decide +kernel
theorem dX12_shift_144 : decode cX12_shift 144 = .ok (.goto (-31), 3) := by decide +kernel
theorem dX12_shift_147 : decode cX12_shift 147 = .ok (.iconst 0, 1) := by decide +kernel
theorem dX12_shift_148 : decode cX12_shift 148 = .ok (.istore 6, 2) := by decide +kernel
theorem dX12_shift_150 : decode cX12_shift 150 = .ok (.iload 6, 2) := by decide +kernel
theorem dX12_shift_152 : decode cX12_shift 152 = .ok (.iload 5, 2) := by decide +kernel
theorem dX12_shift_154 : decode cX12_shift 154 = .ok (.if_icmp .ge 31, 3) := by decide +kernel
theorem dX12_shift_157 : decode cX12_shift 157 = .ok (.aload_n 0, 1) := by decide +kernel
theorem dX12_shift_158 : decode cX12_shift 158 = .ok (.getfield 111, 3) := by decide +kernel
theorem dX12_shift_161 : decode cX12_shift 161 = .ok (.bipush 60, 2) := by decide +kernel
theorem dX12_shift_163 : decode cX12_shift 163 = .ok (.iload_n 3, 1) := by decide +kernel
theorem dX12_shift_164 : decode cX12_shift 164 = .ok (.imul, 1) := by decide +kernel
theorem dX12_shift_165 : decode cX12_shift 165 = .ok (.iload 4, 2) := by decide +kernel
theorem dX12_shift_167 : decode cX12_shift 167 = .ok (.iadd, 1) := by decide +kernel
theorem dX12_shift_168 : decode cX12_shift 168 = .ok (.iload 6, 2) := by decide +kernel
theorem dX12_shift_170 : decode cX12_shift 170 = .ok (.iadd, 1) := by decide +kernel
theorem dX12_shift_171 : decode cX12_shift 171 = .ok (.aload_n 0, 1) := by decide +kernel
theorem dX12_shift_172 : decode cX12_shift 172 = .ok (.getfield 115, 3) := by decide +kernel
theorem dX12_shift_175 : decode cX12_shift 175 = .ok (.iload 6, 2) := by decide +kernel
theorem dX12_shift_177 : decode cX12_shift 177 = .ok (.laload, 1) := by decide +kernel
theorem dX12_shift_178 : decode cX12_shift 178 = .ok (.lastore, 1) := by decide +kernel
theorem dX12_shift_179 : decode cX12_shift 179 = .ok (.iinc 6 1, 3) := by decide +kernel
theorem dX12_shift_182 : decode cX12_shift 182 = .ok (.goto (-32), 3) := by decide +kernel
theorem dX12_shift_185 : decode cX12_shift 185 = .ok (.iload 5, 2) := by decide +kernel
theorem dX12_shift_187 : decode cX12_shift 187 = .ok (.ireturn, 1) := by decide +kernel
theorem dX12_taken_0 : decode cX12_taken 0 = .ok (.iload_n 1, 1) := by decide +kernel
theorem dX12_taken_1 : decode cX12_taken 1 = .ok (.invokestatic 137, 3) := by decide +kernel
theorem dX12_taken_4 : decode cX12_taken 4 = .ok (.ifCond .eq 13, 3) := by decide +kernel
theorem dX12_taken_7 : decode cX12_taken 7 = .ok (.iload_n 2, 1) := by decide +kernel
theorem dX12_taken_8 : decode cX12_taken 8 = .ok (.iconst 0, 1) := by decide +kernel
theorem dX12_taken_9 : decode cX12_taken 9 = .ok (.bipush 7, 2) := by decide +kernel
theorem dX12_taken_11 : decode cX12_taken 11 = .ok (.invokestatic 125, 3) := by decide +kernel
theorem dX12_taken_14 : decode cX12_taken 14 = .ok (.ifCond .ne 5, 3) := by decide +kernel
theorem dX12_taken_17 : decode cX12_taken 17 = .ok (.iconst (-1), 1) := by decide +kernel
theorem dX12_taken_18 : decode cX12_taken 18 = .ok (.ireturn, 1) := by decide +kernel
theorem dX12_taken_19 : decode cX12_taken 19 = .ok (.aload_n 0, 1) := by decide +kernel
theorem dX12_taken_20 : decode cX12_taken 20 = .ok (.getfield 105, 3) := by decide +kernel
theorem dX12_taken_23 : decode cX12_taken 23 = .ok (.iload_n 1, 1) := by decide +kernel
theorem dX12_taken_24 : decode cX12_taken 24 = .ok (.iaload, 1) := by decide +kernel
theorem dX12_taken_25 : decode cX12_taken 25 = .ok (.iconst (-1), 1) := by decide +kernel
theorem dX12_taken_26 : decode cX12_taken 26 = .ok (.if_icmp .ne 6, 3) := by decide +kernel
theorem dX12_taken_29 : decode cX12_taken 29 = .ok (.bipush (-11), 2) := by decide +kernel
theorem dX12_taken_31 : decode cX12_taken 31 = .ok (.ireturn, 1) := by decide +kernel
theorem dX12_taken_32 : decode cX12_taken 32 = .ok (.aload_n 0, 1) := by decide +kernel
theorem dX12_taken_33 : decode cX12_taken 33 = .ok (.getfield 105, 3) := by decide +kernel
theorem dX12_taken_36 : decode cX12_taken 36 = .ok (.iload_n 1, 1) := by decide +kernel
theorem dX12_taken_37 : decode cX12_taken 37 = .ok (.iaload, 1) := by decide +kernel
theorem dX12_taken_38 : decode cX12_taken 38 = .ok (.ifCond .lt 35, 3) := by decide +kernel
theorem dX12_taken_41 : decode cX12_taken 41 = .ok (.aload_n 0, 1) := by decide +kernel
theorem dX12_taken_42 : decode cX12_taken 42 = .ok (.getfield 99, 3) := by decide +kernel
theorem dX12_taken_45 : decode cX12_taken 45 = .ok (.aload_n 0, 1) := by decide +kernel
theorem dX12_taken_46 : decode cX12_taken 46 = .ok (.getfield 105, 3) := by decide +kernel
theorem dX12_taken_49 : decode cX12_taken 49 = .ok (.iload_n 1, 1) := by decide +kernel
theorem dX12_taken_50 : decode cX12_taken 50 = .ok (.iaload, 1) := by decide +kernel
theorem dX12_taken_51 : decode cX12_taken 51 = .ok (.iaload, 1) := by decide +kernel
theorem dX12_taken_52 : decode cX12_taken 52 = .ok (.iload_n 2, 1) := by decide +kernel
theorem dX12_taken_53 : decode cX12_taken 53 = .ok (.invokestatic 392, 3) := by decide +kernel
theorem dX12_taken_56 : decode cX12_taken 56 = .ok (.ifCond .eq 17, 3) := by decide +kernel
theorem dX12_taken_59 : decode cX12_taken 59 = .ok (.aload_n 0, 1) := by decide +kernel
theorem dX12_taken_60 : decode cX12_taken 60 = .ok (.getfield 99, 3) := by decide +kernel
theorem dX12_taken_63 : decode cX12_taken 63 = .ok (.aload_n 0, 1) := by decide +kernel
theorem dX12_taken_64 : decode cX12_taken 64 = .ok (.getfield 105, 3) := by decide +kernel
theorem dX12_taken_67 : decode cX12_taken 67 = .ok (.iload_n 1, 1) := by decide +kernel
theorem dX12_taken_68 : decode cX12_taken 68 = .ok (.iaload, 1) := by decide +kernel
theorem dX12_taken_69 : decode cX12_taken 69 = .ok (.iaload, 1) := by decide +kernel
theorem dX12_taken_70 : decode cX12_taken 70 = .ok (.goto 5, 3) := by decide +kernel
theorem dX12_taken_73 : decode cX12_taken 73 = .ok (.bipush (-12), 2) := by decide +kernel
theorem dX12_taken_75 : decode cX12_taken 75 = .ok (.ireturn, 1) := by decide +kernel
