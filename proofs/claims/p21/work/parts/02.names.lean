theorem dX0_init_0 : decode cX0_init 0 = .ok (.aload_n 0, 1) := by decide +kernel
theorem dX0_init_1 : decode cX0_init 1 = .ok (.invokespecial 3, 3) := by decide +kernel
theorem dX0_init_4 : decode cX0_init 4 = .ok (.aload_n 0, 1) := by decide +kernel
theorem dX0_init_5 : decode cX0_init 5 = .ok (.aload_n 1, 1) := by decide +kernel
theorem dX0_init_6 : decode cX0_init 6 = .ok (.putfield 9, 3) := by decide +kernel
theorem dX0_init_9 : decode cX0_init 9 = .ok (.aload_n 0, 1) := by decide +kernel
theorem dX0_init_10 : decode cX0_init 10 = .ok (.lload_n 2, 1) := by decide +kernel
theorem dX0_init_11 : decode cX0_init 11 = .ok (.putfield 13, 3) := by decide +kernel
theorem dX0_init_14 : decode cX0_init 14 = .ok (.aload_n 0, 1) := by decide +kernel
theorem dX0_init_15 : decode cX0_init 15 = .ok (.lload 4, 2) := by decide +kernel
theorem dX0_init_17 : decode cX0_init 17 = .ok (.putfield 17, 3) := by decide +kernel
theorem dX0_init_20 : decode cX0_init 20 = .ok (.return_, 1) := by decide +kernel
theorem dX0_stands_0 : decode cX0_stands 0 = .ok (.aload_n 0, 1) := by decide +kernel
theorem dX0_stands_1 : decode cX0_stands 1 = .ok (.getfield 9, 3) := by decide +kernel
theorem dX0_stands_4 : decode cX0_stands 4 = .ok (.aload_n 0, 1) := by decide +kernel
theorem dX0_stands_5 : decode cX0_stands 5 = .ok (.getfield 13, 3) := by decide +kernel
theorem dX0_stands_8 : decode cX0_stands 8 = .ok (.aload_n 0, 1) := by decide +kernel
theorem dX0_stands_9 : decode cX0_stands 9 = .ok (.getfield 17, 3) := by decide +kernel
theorem dX0_stands_12 : decode cX0_stands 12 = .ok (.invokevirtual 20, 3) := by decide +kernel
theorem dX0_stands_15 : decode cX0_stands 15 = .ok (.ireturn, 1) := by decide +kernel
theorem dX0_hasZero_0 : decode cX0_hasZero 0 = .ok (.aload_n 0, 1) := by decide +kernel
theorem dX0_hasZero_1 : decode cX0_hasZero 1 = .ok (.getfield 9, 3) := by decide +kernel
theorem dX0_hasZero_4 : decode cX0_hasZero 4 = .ok (.aload_n 0, 1) := by decide +kernel
theorem dX0_hasZero_5 : decode cX0_hasZero 5 = .ok (.getfield 13, 3) := by decide +kernel
theorem dX0_hasZero_8 : decode cX0_hasZero 8 = .ok (.lconst 0, 1) := by decide +kernel
theorem dX0_hasZero_9 : decode cX0_hasZero 9 = .ok (.invokevirtual 20, 3) := by decide +kernel
theorem dX0_hasZero_12 : decode cX0_hasZero 12 = .ok (.ifCond .eq 22, 3) := by decide +kernel
theorem dX0_hasZero_15 : decode cX0_hasZero 15 = .ok (.aload_n 0, 1) := by decide +kernel
theorem dX0_hasZero_16 : decode cX0_hasZero 16 = .ok (.getfield 9, 3) := by decide +kernel
theorem dX0_hasZero_19 : decode cX0_hasZero 19 = .ok (.lconst 0, 1) := by decide +kernel
theorem dX0_hasZero_20 : decode cX0_hasZero 20 = .ok (.aload_n 0, 1) := by decide +kernel
theorem dX0_hasZero_21 : decode cX0_hasZero 21 = .ok (.getfield 17, 3) := by decide +kernel
theorem dX0_hasZero_24 : decode cX0_hasZero 24 = .ok (.invokevirtual 20, 3) := by decide +kernel
theorem dX0_hasZero_27 : decode cX0_hasZero 27 = .ok (.ifCond .eq 7, 3) := by decide +kernel
theorem dX0_hasZero_30 : decode cX0_hasZero 30 = .ok (.iconst 1, 1) := by decide +kernel
theorem dX0_hasZero_31 : decode cX0_hasZero 31 = .ok (.goto 4, 3) := by decide +kernel
theorem dX0_hasZero_34 : decode cX0_hasZero 34 = .ok (.iconst 0, 1) := by decide +kernel
theorem dX0_hasZero_35 : decode cX0_hasZero 35 = .ok (.ireturn, 1) := by decide +kernel
theorem dX0_everything_0 : decode cX0_everything 0 = .ok (.new 1, 3) := by decide +kernel
theorem dX0_everything_3 : decode cX0_everything 3 = .ok (.dup, 1) := by decide +kernel
theorem dX0_everything_4 : decode cX0_everything 4 = .ok (.aload_n 0, 1) := by decide +kernel
theorem dX0_everything_5 : decode cX0_everything 5 = .ok (.getfield 9, 3) := by decide +kernel
theorem dX0_everything_8 : decode cX0_everything 8 = .ok (.aload_n 0, 1) := by decide +kernel
theorem dX0_everything_9 : decode cX0_everything 9 = .ok (.getfield 9, 3) := by decide +kernel
theorem dX0_everything_12 : decode cX0_everything 12 = .ok (.iconst 1, 1) := by decide +kernel
theorem dX0_everything_13 : decode cX0_everything 13 = .ok (.aload_n 0, 1) := by decide +kernel
theorem dX0_everything_14 : decode cX0_everything 14 = .ok (.getfield 9, 3) := by decide +kernel
theorem dX0_everything_17 : decode cX0_everything 17 = .ok (.getfield 26, 3) := by decide +kernel
theorem dX0_everything_20 : decode cX0_everything 20 = .ok (.invokevirtual 29, 3) := by decide +kernel
theorem dX0_everything_23 : decode cX0_everything 23 = .ok (.aload_n 0, 1) := by decide +kernel
theorem dX0_everything_24 : decode cX0_everything 24 = .ok (.getfield 9, 3) := by decide +kernel
theorem dX0_everything_27 : decode cX0_everything 27 = .ok (.getfield 26, 3) := by decide +kernel
theorem dX0_everything_30 : decode cX0_everything 30 = .ok (.invokespecial 33, 3) := by decide +kernel
theorem dX0_everything_33 : decode cX0_everything 33 = .ok (.areturn, 1) := by decide +kernel
theorem dX0_nothing_0 : decode cX0_nothing 0 = .ok (.new 1, 3) := by decide +kernel
theorem dX0_nothing_3 : decode cX0_nothing 3 = .ok (.dup, 1) := by decide +kernel
theorem dX0_nothing_4 : decode cX0_nothing 4 = .ok (.aload_n 0, 1) := by decide +kernel
theorem dX0_nothing_5 : decode cX0_nothing 5 = .ok (.getfield 9, 3) := by decide +kernel
theorem dX0_nothing_8 : decode cX0_nothing 8 = .ok (.aload_n 0, 1) := by decide +kernel
theorem dX0_nothing_9 : decode cX0_nothing 9 = .ok (.getfield 9, 3) := by decide +kernel
theorem dX0_nothing_12 : decode cX0_nothing 12 = .ok (.getfield 36, 3) := by decide +kernel
theorem dX0_nothing_15 : decode cX0_nothing 15 = .ok (.aload_n 0, 1) := by decide +kernel
theorem dX0_nothing_16 : decode cX0_nothing 16 = .ok (.getfield 9, 3) := by decide +kernel
theorem dX0_nothing_19 : decode cX0_nothing 19 = .ok (.getfield 36, 3) := by decide +kernel
theorem dX0_nothing_22 : decode cX0_nothing 22 = .ok (.invokespecial 33, 3) := by decide +kernel
theorem dX0_nothing_25 : decode cX0_nothing 25 = .ok (.areturn, 1) := by decide +kernel
theorem dX0_acted_0 : decode cX0_acted 0 = .ok (.iload_n 1, 1) := by decide +kernel
theorem dX0_acted_1 : decode cX0_acted 1 = .ok (.tableswitch 253 0 4 #[35, 70, 105, 158, 211], 35) := by decide +kernel
theorem dX0_acted_36 : decode cX0_acted 36 = .ok (.aload_n 0, 1) := by decide +kernel
theorem dX0_acted_37 : decode cX0_acted 37 = .ok (.aload_n 0, 1) := by decide +kernel
theorem dX0_acted_38 : decode cX0_acted 38 = .ok (.getfield 9, 3) := by decide +kernel
theorem dX0_acted_41 : decode cX0_acted 41 = .ok (.aload_n 0, 1) := by decide +kernel
theorem dX0_acted_42 : decode cX0_acted 42 = .ok (.getfield 13, 3) := by decide +kernel
theorem dX0_acted_45 : decode cX0_acted 45 = .ok (.aload_n 2, 1) := by decide +kernel
theorem dX0_acted_46 : decode cX0_acted 46 = .ok (.getfield 13, 3) := by decide +kernel
theorem dX0_acted_49 : decode cX0_acted 49 = .ok (.invokestatic 39, 3) := by decide +kernel
theorem dX0_acted_52 : decode cX0_acted 52 = .ok (.aload_n 0, 1) := by decide +kernel
theorem dX0_acted_53 : decode cX0_acted 53 = .ok (.getfield 9, 3) := by decide +kernel
theorem dX0_acted_56 : decode cX0_acted 56 = .ok (.aload_n 0, 1) := by decide +kernel
theorem dX0_acted_57 : decode cX0_acted 57 = .ok (.getfield 17, 3) := by decide +kernel
theorem dX0_acted_60 : decode cX0_acted 60 = .ok (.aload_n 2, 1) := by decide +kernel
theorem dX0_acted_61 : decode cX0_acted 61 = .ok (.getfield 17, 3) := by decide +kernel
theorem dX0_acted_64 : decode cX0_acted 64 = .ok (.invokestatic 39, 3) := by decide +kernel
theorem dX0_acted_67 : decode cX0_acted 67 = .ok (.invokevirtual 45, 3) := by decide +kernel
theorem dX0_acted_70 : decode cX0_acted 70 = .ok (.areturn, 1) := by decide +kernel
theorem dX0_acted_71 : decode cX0_acted 71 = .ok (.aload_n 0, 1) := by decide +kernel
theorem dX0_acted_72 : decode cX0_acted 72 = .ok (.aload_n 0, 1) := by decide +kernel
theorem dX0_acted_73 : decode cX0_acted 73 = .ok (.getfield 9, 3) := by decide +kernel
theorem dX0_acted_76 : decode cX0_acted 76 = .ok (.aload_n 0, 1) := by decide +kernel
theorem dX0_acted_77 : decode cX0_acted 77 = .ok (.getfield 13, 3) := by decide +kernel
theorem dX0_acted_80 : decode cX0_acted 80 = .ok (.aload_n 2, 1) := by decide +kernel
theorem dX0_acted_81 : decode cX0_acted 81 = .ok (.getfield 17, 3) := by decide +kernel
theorem dX0_acted_84 : decode cX0_acted 84 = .ok (.invokestatic 49, 3) := by decide +kernel
theorem dX0_acted_87 : decode cX0_acted 87 = .ok (.aload_n 0, 1) := by decide +kernel
theorem dX0_acted_88 : decode cX0_acted 88 = .ok (.getfield 9, 3) := by decide +kernel
theorem dX0_acted_91 : decode cX0_acted 91 = .ok (.aload_n 0, 1) := by decide +kernel
theorem dX0_acted_92 : decode cX0_acted 92 = .ok (.getfield 17, 3) := by decide +kernel
theorem dX0_acted_95 : decode cX0_acted 95 = .ok (.aload_n 2, 1) := by decide +kernel
theorem dX0_acted_96 : decode cX0_acted 96 = .ok (.getfield 13, 3) := by decide +kernel
theorem dX0_acted_99 : decode cX0_acted 99 = .ok (.invokestatic 49, 3) := by decide +kernel
theorem dX0_acted_102 : decode cX0_acted 102 = .ok (.invokevirtual 45, 3) := by decide +kernel
theorem dX0_acted_105 : decode cX0_acted 105 = .ok (.areturn, 1) := by decide +kernel
theorem dX0_acted_106 : decode cX0_acted 106 = .ok (.aload_n 0, 1) := by decide +kernel
theorem dX0_acted_107 : decode cX0_acted 107 = .ok (.aload_n 0, 1) := by decide +kernel
theorem dX0_acted_108 : decode cX0_acted 108 = .ok (.aload_n 0, 1) := by decide +kernel
theorem dX0_acted_109 : decode cX0_acted 109 = .ok (.getfield 13, 3) := by decide +kernel
theorem dX0_acted_112 : decode cX0_acted 112 = .ok (.aload_n 2, 1) := by decide +kernel
theorem dX0_acted_113 : decode cX0_acted 113 = .ok (.getfield 13, 3) := by decide +kernel
theorem dX0_acted_116 : decode cX0_acted 116 = .ok (.invokevirtual 52, 3) := by decide +kernel
theorem dX0_acted_119 : decode cX0_acted 119 = .ok (.aload_n 0, 1) := by decide +kernel
theorem dX0_acted_120 : decode cX0_acted 120 = .ok (.aload_n 0, 1) := by decide +kernel
theorem dX0_acted_121 : decode cX0_acted 121 = .ok (.getfield 13, 3) := by decide +kernel
theorem dX0_acted_124 : decode cX0_acted 124 = .ok (.aload_n 2, 1) := by decide +kernel
theorem dX0_acted_125 : decode cX0_acted 125 = .ok (.getfield 17, 3) := by decide +kernel
theorem dX0_acted_128 : decode cX0_acted 128 = .ok (.invokevirtual 52, 3) := by decide +kernel
theorem dX0_acted_131 : decode cX0_acted 131 = .ok (.aload_n 0, 1) := by decide +kernel
theorem dX0_acted_132 : decode cX0_acted 132 = .ok (.aload_n 0, 1) := by decide +kernel
theorem dX0_acted_133 : decode cX0_acted 133 = .ok (.getfield 17, 3) := by decide +kernel
theorem dX0_acted_136 : decode cX0_acted 136 = .ok (.aload_n 2, 1) := by decide +kernel
theorem dX0_acted_137 : decode cX0_acted 137 = .ok (.getfield 13, 3) := by decide +kernel
theorem dX0_acted_140 : decode cX0_acted 140 = .ok (.invokevirtual 52, 3) := by decide +kernel
theorem dX0_acted_143 : decode cX0_acted 143 = .ok (.aload_n 0, 1) := by decide +kernel
theorem dX0_acted_144 : decode cX0_acted 144 = .ok (.aload_n 0, 1) := by decide +kernel
theorem dX0_acted_145 : decode cX0_acted 145 = .ok (.getfield 17, 3) := by decide +kernel
theorem dX0_acted_148 : decode cX0_acted 148 = .ok (.aload_n 2, 1) := by decide +kernel
theorem dX0_acted_149 : decode cX0_acted 149 = .ok (.getfield 17, 3) := by decide +kernel
theorem dX0_acted_152 : decode cX0_acted 152 = .ok (.invokevirtual 52, 3) := by decide +kernel
theorem dX0_acted_155 : decode cX0_acted 155 = .ok (.invokevirtual 56, 3) := by decide +kernel
theorem dX0_acted_158 : decode cX0_acted 158 = .ok (.areturn, 1) := by decide +kernel
theorem dX0_acted_159 : decode cX0_acted 159 = .ok (.aload_n 0, 1) := by decide +kernel
theorem dX0_acted_160 : decode cX0_acted 160 = .ok (.aload_n 0, 1) := by decide +kernel
theorem dX0_acted_161 : decode cX0_acted 161 = .ok (.aload_n 0, 1) := by decide +kernel
theorem dX0_acted_162 : decode cX0_acted 162 = .ok (.getfield 13, 3) := by decide +kernel
theorem dX0_acted_165 : decode cX0_acted 165 = .ok (.aload_n 2, 1) := by decide +kernel
theorem dX0_acted_166 : decode cX0_acted 166 = .ok (.getfield 13, 3) := by decide +kernel
theorem dX0_acted_169 : decode cX0_acted 169 = .ok (.invokevirtual 60, 3) := by decide +kernel
theorem dX0_acted_172 : decode cX0_acted 172 = .ok (.aload_n 0, 1) := by decide +kernel
theorem dX0_acted_173 : decode cX0_acted 173 = .ok (.aload_n 0, 1) := by decide +kernel
theorem dX0_acted_174 : decode cX0_acted 174 = .ok (.getfield 13, 3) := by decide +kernel
theorem dX0_acted_177 : decode cX0_acted 177 = .ok (.aload_n 2, 1) := by decide +kernel
theorem dX0_acted_178 : decode cX0_acted 178 = .ok (.getfield 17, 3) := by decide +kernel
theorem dX0_acted_181 : decode cX0_acted 181 = .ok (.invokevirtual 60, 3) := by decide +kernel
theorem dX0_acted_184 : decode cX0_acted 184 = .ok (.aload_n 0, 1) := by decide +kernel
theorem dX0_acted_185 : decode cX0_acted 185 = .ok (.aload_n 0, 1) := by decide +kernel
theorem dX0_acted_186 : decode cX0_acted 186 = .ok (.getfield 17, 3) := by decide +kernel
theorem dX0_acted_189 : decode cX0_acted 189 = .ok (.aload_n 2, 1) := by decide +kernel
theorem dX0_acted_190 : decode cX0_acted 190 = .ok (.getfield 13, 3) := by decide +kernel
theorem dX0_acted_193 : decode cX0_acted 193 = .ok (.invokevirtual 60, 3) := by decide +kernel
theorem dX0_acted_196 : decode cX0_acted 196 = .ok (.aload_n 0, 1) := by decide +kernel
theorem dX0_acted_197 : decode cX0_acted 197 = .ok (.aload_n 0, 1) := by decide +kernel
theorem dX0_acted_198 : decode cX0_acted 198 = .ok (.getfield 17, 3) := by decide +kernel
theorem dX0_acted_201 : decode cX0_acted 201 = .ok (.aload_n 2, 1) := by decide +kernel
theorem dX0_acted_202 : decode cX0_acted 202 = .ok (.getfield 17, 3) := by decide +kernel
theorem dX0_acted_205 : decode cX0_acted 205 = .ok (.invokevirtual 60, 3) := by decide +kernel
theorem dX0_acted_208 : decode cX0_acted 208 = .ok (.invokevirtual 56, 3) := by decide +kernel
theorem dX0_acted_211 : decode cX0_acted 211 = .ok (.areturn, 1) := by decide +kernel
theorem dX0_acted_212 : decode cX0_acted 212 = .ok (.new 1, 3) := by decide +kernel
theorem dX0_acted_215 : decode cX0_acted 215 = .ok (.dup, 1) := by decide +kernel
theorem dX0_acted_216 : decode cX0_acted 216 = .ok (.aload_n 0, 1) := by decide +kernel
theorem dX0_acted_217 : decode cX0_acted 217 = .ok (.getfield 9, 3) := by decide +kernel
theorem dX0_acted_220 : decode cX0_acted 220 = .ok (.aload_n 0, 1) := by decide +kernel
theorem dX0_acted_221 : decode cX0_acted 221 = .ok (.getfield 9, 3) := by decide +kernel
theorem dX0_acted_224 : decode cX0_acted 224 = .ok (.aload_n 0, 1) := by decide +kernel
theorem dX0_acted_225 : decode cX0_acted 225 = .ok (.getfield 13, 3) := by decide +kernel
theorem dX0_acted_228 : decode cX0_acted 228 = .ok (.aload_n 2, 1) := by decide +kernel
theorem dX0_acted_229 : decode cX0_acted 229 = .ok (.getfield 13, 3) := by decide +kernel
theorem dX0_acted_232 : decode cX0_acted 232 = .ok (.invokevirtual 63, 3) := by decide +kernel
theorem dX0_acted_235 : decode cX0_acted 235 = .ok (.aload_n 0, 1) := by decide +kernel
theorem dX0_acted_236 : decode cX0_acted 236 = .ok (.getfield 9, 3) := by decide +kernel
theorem dX0_acted_239 : decode cX0_acted 239 = .ok (.aload_n 0, 1) := by decide +kernel
theorem dX0_acted_240 : decode cX0_acted 240 = .ok (.getfield 17, 3) := by decide +kernel
theorem dX0_acted_243 : decode cX0_acted 243 = .ok (.aload_n 2, 1) := by decide +kernel
theorem dX0_acted_244 : decode cX0_acted 244 = .ok (.getfield 17, 3) := by decide +kernel
theorem dX0_acted_247 : decode cX0_acted 247 = .ok (.invokevirtual 66, 3) := by decide +kernel
theorem dX0_acted_250 : decode cX0_acted 250 = .ok (.invokespecial 33, 3) := by decide +kernel
theorem dX0_acted_253 : decode cX0_acted 253 = .ok (.areturn, 1) := by decide +kernel
theorem dX0_acted_254 : decode cX0_acted 254 = .ok (.new 1, 3) := by decide +kernel
theorem dX0_acted_257 : decode cX0_acted 257 = .ok (.dup, 1) := by decide +kernel
theorem dX0_acted_258 : decode cX0_acted 258 = .ok (.aload_n 0, 1) := by decide +kernel
theorem dX0_acted_259 : decode cX0_acted 259 = .ok (.getfield 9, 3) := by decide +kernel
theorem dX0_acted_262 : decode cX0_acted 262 = .ok (.aload_n 0, 1) := by decide +kernel
theorem dX0_acted_263 : decode cX0_acted 263 = .ok (.getfield 9, 3) := by decide +kernel
theorem dX0_acted_266 : decode cX0_acted 266 = .ok (.aload_n 0, 1) := by decide +kernel
theorem dX0_acted_267 : decode cX0_acted 267 = .ok (.getfield 13, 3) := by decide +kernel
theorem dX0_acted_270 : decode cX0_acted 270 = .ok (.aload_n 2, 1) := by decide +kernel
theorem dX0_acted_271 : decode cX0_acted 271 = .ok (.getfield 13, 3) := by decide +kernel
theorem dX0_acted_274 : decode cX0_acted 274 = .ok (.invokevirtual 66, 3) := by decide +kernel
theorem dX0_acted_277 : decode cX0_acted 277 = .ok (.aload_n 0, 1) := by decide +kernel
theorem dX0_acted_278 : decode cX0_acted 278 = .ok (.getfield 9, 3) := by decide +kernel
theorem dX0_acted_281 : decode cX0_acted 281 = .ok (.aload_n 0, 1) := by decide +kernel
theorem dX0_acted_282 : decode cX0_acted 282 = .ok (.getfield 17, 3) := by decide +kernel
theorem dX0_acted_285 : decode cX0_acted 285 = .ok (.aload_n 2, 1) := by decide +kernel
theorem dX0_acted_286 : decode cX0_acted 286 = .ok (.getfield 17, 3) := by decide +kernel
theorem dX0_acted_289 : decode cX0_acted 289 = .ok (.invokevirtual 63, 3) := by decide +kernel
theorem dX0_acted_292 : decode cX0_acted 292 = .ok (.invokespecial 33, 3) := by decide +kernel
theorem dX0_acted_295 : decode cX0_acted 295 = .ok (.areturn, 1) := by decide +kernel
theorem dX0_product_0 : decode cX0_product 0 = .ok (.aload_n 0, 1) := by decide +kernel
theorem dX0_product_1 : decode cX0_product 1 = .ok (.aload_n 0, 1) := by decide +kernel
theorem dX0_product_2 : decode cX0_product 2 = .ok (.getfield 9, 3) := by decide +kernel
theorem dX0_product_5 : decode cX0_product 5 = .ok (.lload_n 1, 1) := by decide +kernel
theorem dX0_product_6 : decode cX0_product 6 = .ok (.lload_n 3, 1) := by decide +kernel
theorem dX0_product_7 : decode cX0_product 7 = .ok (.invokestatic 69, 3) := by decide +kernel
theorem dX0_product_10 : decode cX0_product 10 = .ok (.invokevirtual 72, 3) := by decide +kernel
theorem dX0_product_13 : decode cX0_product 13 = .ok (.lreturn, 1) := by decide +kernel
theorem dX0_quotient_0 : decode cX0_quotient 0 = .ok (.aload_n 0, 1) := by decide +kernel
theorem dX0_quotient_1 : decode cX0_quotient 1 = .ok (.aload_n 0, 1) := by decide +kernel
theorem dX0_quotient_2 : decode cX0_quotient 2 = .ok (.getfield 9, 3) := by decide +kernel
theorem dX0_quotient_5 : decode cX0_quotient 5 = .ok (.lload_n 1, 1) := by decide +kernel
theorem dX0_quotient_6 : decode cX0_quotient 6 = .ok (.lload_n 3, 1) := by decide +kernel
theorem dX0_quotient_7 : decode cX0_quotient 7 = .ok (.invokestatic 76, 3) := by decide +kernel
theorem dX0_quotient_10 : decode cX0_quotient 10 = .ok (.invokevirtual 72, 3) := by decide +kernel
theorem dX0_quotient_13 : decode cX0_quotient 13 = .ok (.lreturn, 1) := by decide +kernel
theorem dX0_zeroIfNan_0 : decode cX0_zeroIfNan 0 = .ok (.aload_n 0, 1) := by decide +kernel
theorem dX0_zeroIfNan_1 : decode cX0_zeroIfNan 1 = .ok (.getfield 9, 3) := by decide +kernel
theorem dX0_zeroIfNan_4 : decode cX0_zeroIfNan 4 = .ok (.lload_n 1, 1) := by decide +kernel
theorem dX0_zeroIfNan_5 : decode cX0_zeroIfNan 5 = .ok (.invokevirtual 79, 3) := by decide +kernel
theorem dX0_zeroIfNan_8 : decode cX0_zeroIfNan 8 = .ok (.ifCond .eq 7, 3) := by decide +kernel
theorem dX0_zeroIfNan_11 : decode cX0_zeroIfNan 11 = .ok (.lconst 0, 1) := by decide +kernel
theorem dX0_zeroIfNan_12 : decode cX0_zeroIfNan 12 = .ok (.goto 4, 3) := by decide +kernel
theorem dX0_zeroIfNan_15 : decode cX0_zeroIfNan 15 = .ok (.lload_n 1, 1) := by decide +kernel
theorem dX0_zeroIfNan_16 : decode cX0_zeroIfNan 16 = .ok (.lreturn, 1) := by decide +kernel
theorem dX0_ofFour_0 : decode cX0_ofFour 0 = .ok (.aload_n 0, 1) := by decide +kernel
theorem dX0_ofFour_1 : decode cX0_ofFour 1 = .ok (.aload_n 0, 1) := by decide +kernel
theorem dX0_ofFour_2 : decode cX0_ofFour 2 = .ok (.getfield 9, 3) := by decide +kernel
theorem dX0_ofFour_5 : decode cX0_ofFour 5 = .ok (.aload_n 0, 1) := by decide +kernel
theorem dX0_ofFour_6 : decode cX0_ofFour 6 = .ok (.getfield 9, 3) := by decide +kernel
theorem dX0_ofFour_9 : decode cX0_ofFour 9 = .ok (.lload_n 1, 1) := by decide +kernel
theorem dX0_ofFour_10 : decode cX0_ofFour 10 = .ok (.lload_n 3, 1) := by decide +kernel
theorem dX0_ofFour_11 : decode cX0_ofFour 11 = .ok (.invokevirtual 63, 3) := by decide +kernel
theorem dX0_ofFour_14 : decode cX0_ofFour 14 = .ok (.aload_n 0, 1) := by decide +kernel
theorem dX0_ofFour_15 : decode cX0_ofFour 15 = .ok (.getfield 9, 3) := by decide +kernel
theorem dX0_ofFour_18 : decode cX0_ofFour 18 = .ok (.lload 5, 2) := by decide +kernel
theorem dX0_ofFour_20 : decode cX0_ofFour 20 = .ok (.lload 7, 2) := by decide +kernel
theorem dX0_ofFour_22 : decode cX0_ofFour 22 = .ok (.invokevirtual 63, 3) := by decide +kernel
theorem dX0_ofFour_25 : decode cX0_ofFour 25 = .ok (.invokevirtual 63, 3) := by decide +kernel
theorem dX0_ofFour_28 : decode cX0_ofFour 28 = .ok (.aload_n 0, 1) := by decide +kernel
theorem dX0_ofFour_29 : decode cX0_ofFour 29 = .ok (.getfield 9, 3) := by decide +kernel
theorem dX0_ofFour_32 : decode cX0_ofFour 32 = .ok (.aload_n 0, 1) := by decide +kernel
theorem dX0_ofFour_33 : decode cX0_ofFour 33 = .ok (.getfield 9, 3) := by decide +kernel
theorem dX0_ofFour_36 : decode cX0_ofFour 36 = .ok (.lload_n 1, 1) := by decide +kernel
theorem dX0_ofFour_37 : decode cX0_ofFour 37 = .ok (.lload_n 3, 1) := by decide +kernel
theorem dX0_ofFour_38 : decode cX0_ofFour 38 = .ok (.invokevirtual 66, 3) := by decide +kernel
theorem dX0_ofFour_41 : decode cX0_ofFour 41 = .ok (.aload_n 0, 1) := by decide +kernel
theorem dX0_ofFour_42 : decode cX0_ofFour 42 = .ok (.getfield 9, 3) := by decide +kernel
theorem dX0_ofFour_45 : decode cX0_ofFour 45 = .ok (.lload 5, 2) := by decide +kernel
theorem dX0_ofFour_47 : decode cX0_ofFour 47 = .ok (.lload 7, 2) := by decide +kernel
theorem dX0_ofFour_49 : decode cX0_ofFour 49 = .ok (.invokevirtual 66, 3) := by decide +kernel
theorem dX0_ofFour_52 : decode cX0_ofFour 52 = .ok (.invokevirtual 66, 3) := by decide +kernel
theorem dX0_ofFour_55 : decode cX0_ofFour 55 = .ok (.invokevirtual 45, 3) := by decide +kernel
theorem dX0_ofFour_58 : decode cX0_ofFour 58 = .ok (.areturn, 1) := by decide +kernel
theorem dX0_outward_0 : decode cX0_outward 0 = .ok (.aload_n 0, 1) := by decide +kernel
theorem dX0_outward_1 : decode cX0_outward 1 = .ok (.getfield 9, 3) := by decide +kernel
theorem dX0_outward_4 : decode cX0_outward 4 = .ok (.lload_n 1, 1) := by decide +kernel
theorem dX0_outward_5 : decode cX0_outward 5 = .ok (.invokevirtual 79, 3) := by decide +kernel
theorem dX0_outward_8 : decode cX0_outward 8 = .ok (.ifCond .eq 21, 3) := by decide +kernel
theorem dX0_outward_11 : decode cX0_outward 11 = .ok (.aload_n 0, 1) := by decide +kernel
theorem dX0_outward_12 : decode cX0_outward 12 = .ok (.getfield 9, 3) := by decide +kernel
theorem dX0_outward_15 : decode cX0_outward 15 = .ok (.iconst 1, 1) := by decide +kernel
theorem dX0_outward_16 : decode cX0_outward 16 = .ok (.aload_n 0, 1) := by decide +kernel
theorem dX0_outward_17 : decode cX0_outward 17 = .ok (.getfield 9, 3) := by decide +kernel
theorem dX0_outward_20 : decode cX0_outward 20 = .ok (.getfield 26, 3) := by decide +kernel
theorem dX0_outward_23 : decode cX0_outward 23 = .ok (.invokevirtual 29, 3) := by decide +kernel
theorem dX0_outward_26 : decode cX0_outward 26 = .ok (.goto 12, 3) := by decide +kernel
theorem dX0_outward_29 : decode cX0_outward 29 = .ok (.aload_n 0, 1) := by decide +kernel
theorem dX0_outward_30 : decode cX0_outward 30 = .ok (.getfield 9, 3) := by decide +kernel
theorem dX0_outward_33 : decode cX0_outward 33 = .ok (.lload_n 1, 1) := by decide +kernel
theorem dX0_outward_34 : decode cX0_outward 34 = .ok (.iconst (-1), 1) := by decide +kernel
theorem dX0_outward_35 : decode cX0_outward 35 = .ok (.invokevirtual 83, 3) := by decide +kernel
theorem dX0_outward_38 : decode cX0_outward 38 = .ok (.lstore 5, 2) := by decide +kernel
theorem dX0_outward_40 : decode cX0_outward 40 = .ok (.aload_n 0, 1) := by decide +kernel
theorem dX0_outward_41 : decode cX0_outward 41 = .ok (.getfield 9, 3) := by decide +kernel
theorem dX0_outward_44 : decode cX0_outward 44 = .ok (.lload_n 3, 1) := by decide +kernel
theorem dX0_outward_45 : decode cX0_outward 45 = .ok (.invokevirtual 79, 3) := by decide +kernel
theorem dX0_outward_48 : decode cX0_outward 48 = .ok (.ifCond .eq 13, 3) := by decide +kernel
theorem dX0_outward_51 : decode cX0_outward 51 = .ok (.aload_n 0, 1) := by decide +kernel
theorem dX0_outward_52 : decode cX0_outward 52 = .ok (.getfield 9, 3) := by decide +kernel
theorem dX0_outward_55 : decode cX0_outward 55 = .ok (.getfield 26, 3) := by decide +kernel
theorem dX0_outward_58 : decode cX0_outward 58 = .ok (.goto 12, 3) := by decide +kernel
theorem dX0_outward_61 : decode cX0_outward 61 = .ok (.aload_n 0, 1) := by decide +kernel
theorem dX0_outward_62 : decode cX0_outward 62 = .ok (.getfield 9, 3) := by decide +kernel
theorem dX0_outward_65 : decode cX0_outward 65 = .ok (.lload_n 3, 1) := by decide +kernel
theorem dX0_outward_66 : decode cX0_outward 66 = .ok (.iconst 1, 1) := by decide +kernel
theorem dX0_outward_67 : decode cX0_outward 67 = .ok (.invokevirtual 83, 3) := by decide +kernel
theorem dX0_outward_70 : decode cX0_outward 70 = .ok (.lstore 7, 2) := by decide +kernel
theorem dX0_outward_72 : decode cX0_outward 72 = .ok (.new 1, 3) := by decide +kernel
theorem dX0_outward_75 : decode cX0_outward 75 = .ok (.dup, 1) := by decide +kernel
theorem dX0_outward_76 : decode cX0_outward 76 = .ok (.aload_n 0, 1) := by decide +kernel
theorem dX0_outward_77 : decode cX0_outward 77 = .ok (.getfield 9, 3) := by decide +kernel
theorem dX0_outward_80 : decode cX0_outward 80 = .ok (.lload 5, 2) := by decide +kernel
theorem dX0_outward_82 : decode cX0_outward 82 = .ok (.lload 7, 2) := by decide +kernel
theorem dX0_outward_84 : decode cX0_outward 84 = .ok (.invokespecial 33, 3) := by decide +kernel
theorem dX0_outward_87 : decode cX0_outward 87 = .ok (.areturn, 1) := by decide +kernel
theorem dX1_cleaned_0 : decode cX1_cleaned 0 = .ok (.lload_n 1, 1) := by decide +kernel
theorem dX1_cleaned_1 : decode cX1_cleaned 1 = .ok (.aload_n 0, 1) := by decide +kernel
theorem dX1_cleaned_2 : decode cX1_cleaned 2 = .ok (.getfield 39, 3) := by decide +kernel
theorem dX1_cleaned_5 : decode cX1_cleaned 5 = .ok (.aload_n 0, 1) := by decide +kernel
theorem dX1_cleaned_6 : decode cX1_cleaned 6 = .ok (.getfield 39, 3) := by decide +kernel
theorem dX1_cleaned_9 : decode cX1_cleaned 9 = .ok (.lconst 1, 1) := by decide +kernel
theorem dX1_cleaned_10 : decode cX1_cleaned 10 = .ok (.lsub, 1) := by decide +kernel
theorem dX1_cleaned_11 : decode cX1_cleaned 11 = .ok (.lor, 1) := by decide +kernel
theorem dX1_cleaned_12 : decode cX1_cleaned 12 = .ok (.land, 1) := by decide +kernel
theorem dX1_cleaned_13 : decode cX1_cleaned 13 = .ok (.lstore_n 3, 1) := by decide +kernel
theorem dX1_cleaned_14 : decode cX1_cleaned 14 = .ok (.aload_n 0, 1) := by decide +kernel
theorem dX1_cleaned_15 : decode cX1_cleaned 15 = .ok (.lload_n 3, 1) := by decide +kernel
theorem dX1_cleaned_16 : decode cX1_cleaned 16 = .ok (.invokevirtual 49, 3) := by decide +kernel
theorem dX1_cleaned_19 : decode cX1_cleaned 19 = .ok (.ifCond .eq 10, 3) := by decide +kernel
theorem dX1_cleaned_22 : decode cX1_cleaned 22 = .ok (.aload_n 0, 1) := by decide +kernel
theorem dX1_cleaned_23 : decode cX1_cleaned 23 = .ok (.getfield 46, 3) := by decide +kernel
theorem dX1_cleaned_26 : decode cX1_cleaned 26 = .ok (.goto 4, 3) := by decide +kernel
theorem dX1_cleaned_29 : decode cX1_cleaned 29 = .ok (.lload_n 3, 1) := by decide +kernel
theorem dX1_cleaned_30 : decode cX1_cleaned 30 = .ok (.lreturn, 1) := by decide +kernel
theorem dX1_magnitude_0 : decode cX1_magnitude 0 = .ok (.lload_n 1, 1) := by decide +kernel
theorem dX1_magnitude_1 : decode cX1_magnitude 1 = .ok (.aload_n 0, 1) := by decide +kernel
theorem dX1_magnitude_2 : decode cX1_magnitude 2 = .ok (.getfield 39, 3) := by decide +kernel
theorem dX1_magnitude_5 : decode cX1_magnitude 5 = .ok (.lconst 1, 1) := by decide +kernel
theorem dX1_magnitude_6 : decode cX1_magnitude 6 = .ok (.lsub, 1) := by decide +kernel
theorem dX1_magnitude_7 : decode cX1_magnitude 7 = .ok (.land, 1) := by decide +kernel
theorem dX1_magnitude_8 : decode cX1_magnitude 8 = .ok (.lreturn, 1) := by decide +kernel
theorem dX1_isNegative_0 : decode cX1_isNegative 0 = .ok (.lload_n 1, 1) := by decide +kernel
theorem dX1_isNegative_1 : decode cX1_isNegative 1 = .ok (.aload_n 0, 1) := by decide +kernel
theorem dX1_isNegative_2 : decode cX1_isNegative 2 = .ok (.getfield 39, 3) := by decide +kernel
theorem dX1_isNegative_5 : decode cX1_isNegative 5 = .ok (.land, 1) := by decide +kernel
theorem dX1_isNegative_6 : decode cX1_isNegative 6 = .ok (.lconst 0, 1) := by decide +kernel
theorem dX1_isNegative_7 : decode cX1_isNegative 7 = .ok (.lcmp, 1) := by decide +kernel
theorem dX1_isNegative_8 : decode cX1_isNegative 8 = .ok (.ifCond .eq 7, 3) := by decide +kernel
theorem dX1_isNegative_11 : decode cX1_isNegative 11 = .ok (.iconst 1, 1) := by decide +kernel
theorem dX1_isNegative_12 : decode cX1_isNegative 12 = .ok (.goto 4, 3) := by decide +kernel
theorem dX1_isNegative_15 : decode cX1_isNegative 15 = .ok (.iconst 0, 1) := by decide +kernel
theorem dX1_isNegative_16 : decode cX1_isNegative 16 = .ok (.ireturn, 1) := by decide +kernel
theorem dX1_isNan_0 : decode cX1_isNan 0 = .ok (.aload_n 0, 1) := by decide +kernel
theorem dX1_isNan_1 : decode cX1_isNan 1 = .ok (.lload_n 1, 1) := by decide +kernel
theorem dX1_isNan_2 : decode cX1_isNan 2 = .ok (.invokevirtual 53, 3) := by decide +kernel
theorem dX1_isNan_5 : decode cX1_isNan 5 = .ok (.aload_n 0, 1) := by decide +kernel
theorem dX1_isNan_6 : decode cX1_isNan 6 = .ok (.getfield 43, 3) := by decide +kernel
theorem dX1_isNan_9 : decode cX1_isNan 9 = .ok (.lcmp, 1) := by decide +kernel
theorem dX1_isNan_10 : decode cX1_isNan 10 = .ok (.ifCond .le 7, 3) := by decide +kernel
theorem dX1_isNan_13 : decode cX1_isNan 13 = .ok (.iconst 1, 1) := by decide +kernel
theorem dX1_isNan_14 : decode cX1_isNan 14 = .ok (.goto 4, 3) := by decide +kernel
theorem dX1_isNan_17 : decode cX1_isNan 17 = .ok (.iconst 0, 1) := by decide +kernel
theorem dX1_isNan_18 : decode cX1_isNan 18 = .ok (.ireturn, 1) := by decide +kernel
theorem dX1_isInfinite_0 : decode cX1_isInfinite 0 = .ok (.aload_n 0, 1) := by decide +kernel
theorem dX1_isInfinite_1 : decode cX1_isInfinite 1 = .ok (.lload_n 1, 1) := by decide +kernel
theorem dX1_isInfinite_2 : decode cX1_isInfinite 2 = .ok (.invokevirtual 53, 3) := by decide +kernel
theorem dX1_isInfinite_5 : decode cX1_isInfinite 5 = .ok (.aload_n 0, 1) := by decide +kernel
theorem dX1_isInfinite_6 : decode cX1_isInfinite 6 = .ok (.getfield 43, 3) := by decide +kernel
theorem dX1_isInfinite_9 : decode cX1_isInfinite 9 = .ok (.lcmp, 1) := by decide +kernel
theorem dX1_isInfinite_10 : decode cX1_isInfinite 10 = .ok (.ifCond .ne 7, 3) := by decide +kernel
theorem dX1_isInfinite_13 : decode cX1_isInfinite 13 = .ok (.iconst 1, 1) := by decide +kernel
theorem dX1_isInfinite_14 : decode cX1_isInfinite 14 = .ok (.goto 4, 3) := by decide +kernel
theorem dX1_isInfinite_17 : decode cX1_isInfinite 17 = .ok (.iconst 0, 1) := by decide +kernel
theorem dX1_isInfinite_18 : decode cX1_isInfinite 18 = .ok (.ireturn, 1) := by decide +kernel
theorem dX1_signed_0 : decode cX1_signed 0 = .ok (.iload_n 1, 1) := by decide +kernel
theorem dX1_signed_1 : decode cX1_signed 1 = .ok (.ifCond .eq 12, 3) := by decide +kernel
theorem dX1_signed_4 : decode cX1_signed 4 = .ok (.aload_n 0, 1) := by decide +kernel
theorem dX1_signed_5 : decode cX1_signed 5 = .ok (.getfield 39, 3) := by decide +kernel
theorem dX1_signed_8 : decode cX1_signed 8 = .ok (.lload_n 2, 1) := by decide +kernel
theorem dX1_signed_9 : decode cX1_signed 9 = .ok (.lor, 1) := by decide +kernel
theorem dX1_signed_10 : decode cX1_signed 10 = .ok (.goto 4, 3) := by decide +kernel
theorem dX1_signed_13 : decode cX1_signed 13 = .ok (.lload_n 2, 1) := by decide +kernel
theorem dX1_signed_14 : decode cX1_signed 14 = .ok (.lreturn, 1) := by decide +kernel
theorem dX1_opposite_0 : decode cX1_opposite 0 = .ok (.aload_n 0, 1) := by decide +kernel
theorem dX1_opposite_1 : decode cX1_opposite 1 = .ok (.lload_n 1, 1) := by decide +kernel
theorem dX1_opposite_2 : decode cX1_opposite 2 = .ok (.invokevirtual 49, 3) := by decide +kernel
theorem dX1_opposite_5 : decode cX1_opposite 5 = .ok (.ifCond .eq 7, 3) := by decide +kernel
theorem dX1_opposite_8 : decode cX1_opposite 8 = .ok (.lload_n 1, 1) := by decide +kernel
theorem dX1_opposite_9 : decode cX1_opposite 9 = .ok (.goto 9, 3) := by decide +kernel
theorem dX1_opposite_12 : decode cX1_opposite 12 = .ok (.lload_n 1, 1) := by decide +kernel
theorem dX1_opposite_13 : decode cX1_opposite 13 = .ok (.aload_n 0, 1) := by decide +kernel
theorem dX1_opposite_14 : decode cX1_opposite 14 = .ok (.getfield 39, 3) := by decide +kernel
theorem dX1_opposite_17 : decode cX1_opposite 17 = .ok (.lxor, 1) := by decide +kernel
theorem dX1_opposite_18 : decode cX1_opposite 18 = .ok (.lreturn, 1) := by decide +kernel
theorem dX1_one_0 : decode cX1_one 0 = .ok (.aload_n 0, 1) := by decide +kernel
theorem dX1_one_1 : decode cX1_one 1 = .ok (.getfield 33, 3) := by decide +kernel
theorem dX1_one_4 : decode cX1_one 4 = .ok (.iconst 1, 1) := by decide +kernel
theorem dX1_one_5 : decode cX1_one 5 = .ok (.ishr, 1) := by decide +kernel
theorem dX1_one_6 : decode cX1_one 6 = .ok (.i2l, 1) := by decide +kernel
theorem dX1_one_7 : decode cX1_one 7 = .ok (.aload_n 0, 1) := by decide +kernel
theorem dX1_one_8 : decode cX1_one 8 = .ok (.getfield 29, 3) := by decide +kernel
theorem dX1_one_11 : decode cX1_one 11 = .ok (.lshl, 1) := by decide +kernel
theorem dX1_one_12 : decode cX1_one 12 = .ok (.lreturn, 1) := by decide +kernel
theorem dX1_sortOf_0 : decode cX1_sortOf 0 = .ok (.aload_n 0, 1) := by decide +kernel
theorem dX1_sortOf_1 : decode cX1_sortOf 1 = .ok (.lload_n 1, 1) := by decide +kernel
theorem dX1_sortOf_2 : decode cX1_sortOf 2 = .ok (.invokevirtual 49, 3) := by decide +kernel
theorem dX1_sortOf_5 : decode cX1_sortOf 5 = .ok (.ifCond .eq 5, 3) := by decide +kernel
theorem dX1_sortOf_8 : decode cX1_sortOf 8 = .ok (.iconst 3, 1) := by decide +kernel
theorem dX1_sortOf_9 : decode cX1_sortOf 9 = .ok (.ireturn, 1) := by decide +kernel
theorem dX1_sortOf_10 : decode cX1_sortOf 10 = .ok (.aload_n 0, 1) := by decide +kernel
theorem dX1_sortOf_11 : decode cX1_sortOf 11 = .ok (.lload_n 1, 1) := by decide +kernel
theorem dX1_sortOf_12 : decode cX1_sortOf 12 = .ok (.invokevirtual 53, 3) := by decide +kernel
theorem dX1_sortOf_15 : decode cX1_sortOf 15 = .ok (.lstore_n 3, 1) := by decide +kernel
theorem dX1_sortOf_16 : decode cX1_sortOf 16 = .ok (.lload_n 3, 1) := by decide +kernel
theorem dX1_sortOf_17 : decode cX1_sortOf 17 = .ok (.lconst 0, 1) := by decide +kernel
theorem dX1_sortOf_18 : decode cX1_sortOf 18 = .ok (.lcmp, 1) := by decide +kernel
theorem dX1_sortOf_19 : decode cX1_sortOf 19 = .ok (.ifCond .ne 7, 3) := by decide +kernel
theorem dX1_sortOf_22 : decode cX1_sortOf 22 = .ok (.iconst 0, 1) := by decide +kernel
theorem dX1_sortOf_23 : decode cX1_sortOf 23 = .ok (.goto 17, 3) := by decide +kernel
theorem dX1_sortOf_26 : decode cX1_sortOf 26 = .ok (.lload_n 3, 1) := by decide +kernel
theorem dX1_sortOf_27 : decode cX1_sortOf 27 = .ok (.aload_n 0, 1) := by decide +kernel
theorem dX1_sortOf_28 : decode cX1_sortOf 28 = .ok (.getfield 43, 3) := by decide +kernel
theorem dX1_sortOf_31 : decode cX1_sortOf 31 = .ok (.lcmp, 1) := by decide +kernel
theorem dX1_sortOf_32 : decode cX1_sortOf 32 = .ok (.ifCond .ne 7, 3) := by decide +kernel
theorem dX1_sortOf_35 : decode cX1_sortOf 35 = .ok (.iconst 2, 1) := by decide +kernel
theorem dX1_sortOf_36 : decode cX1_sortOf 36 = .ok (.goto 4, 3) := by decide +kernel
theorem dX1_sortOf_39 : decode cX1_sortOf 39 = .ok (.iconst 1, 1) := by decide +kernel
theorem dX1_sortOf_40 : decode cX1_sortOf 40 = .ok (.istore 5, 2) := by decide +kernel
theorem dX1_sortOf_42 : decode cX1_sortOf 42 = .ok (.aload_n 0, 1) := by decide +kernel
theorem dX1_sortOf_43 : decode cX1_sortOf 43 = .ok (.lload_n 1, 1) := by decide +kernel
theorem dX1_sortOf_44 : decode cX1_sortOf 44 = .ok (.invokevirtual 57, 3) := by decide +kernel
theorem dX1_sortOf_47 : decode cX1_sortOf 47 = .ok (.ifCond .eq 10, 3) := by decide +kernel
theorem dX1_sortOf_50 : decode cX1_sortOf 50 = .ok (.iload 5, 2) := by decide +kernel
theorem dX1_sortOf_52 : decode cX1_sortOf 52 = .ok (.iconst 4, 1) := by decide +kernel
theorem dX1_sortOf_53 : decode cX1_sortOf 53 = .ok (.iadd, 1) := by decide +kernel
theorem dX1_sortOf_54 : decode cX1_sortOf 54 = .ok (.goto 5, 3) := by decide +kernel
theorem dX1_sortOf_57 : decode cX1_sortOf 57 = .ok (.iload 5, 2) := by decide +kernel
theorem dX1_sortOf_59 : decode cX1_sortOf 59 = .ok (.ireturn, 1) := by decide +kernel
theorem dX1_significand_0 : decode cX1_significand 0 = .ok (.lconst 1, 1) := by decide +kernel
theorem dX1_significand_1 : decode cX1_significand 1 = .ok (.aload_n 0, 1) := by decide +kernel
theorem dX1_significand_2 : decode cX1_significand 2 = .ok (.getfield 29, 3) := by decide +kernel
theorem dX1_significand_5 : decode cX1_significand 5 = .ok (.lshl, 1) := by decide +kernel
theorem dX1_significand_6 : decode cX1_significand 6 = .ok (.lstore_n 3, 1) := by decide +kernel
theorem dX1_significand_7 : decode cX1_significand 7 = .ok (.lload_n 1, 1) := by decide +kernel
theorem dX1_significand_8 : decode cX1_significand 8 = .ok (.lload_n 3, 1) := by decide +kernel
theorem dX1_significand_9 : decode cX1_significand 9 = .ok (.lconst 1, 1) := by decide +kernel
theorem dX1_significand_10 : decode cX1_significand 10 = .ok (.lsub, 1) := by decide +kernel
theorem dX1_significand_11 : decode cX1_significand 11 = .ok (.land, 1) := by decide +kernel
theorem dX1_significand_12 : decode cX1_significand 12 = .ok (.lstore 5, 2) := by decide +kernel
theorem dX1_significand_14 : decode cX1_significand 14 = .ok (.aload_n 0, 1) := by decide +kernel
theorem dX1_significand_15 : decode cX1_significand 15 = .ok (.lload_n 1, 1) := by decide +kernel
theorem dX1_significand_16 : decode cX1_significand 16 = .ok (.invokevirtual 60, 3) := by decide +kernel
theorem dX1_significand_19 : decode cX1_significand 19 = .ok (.ifCond .ne 8, 3) := by decide +kernel
theorem dX1_significand_22 : decode cX1_significand 22 = .ok (.lload 5, 2) := by decide +kernel
theorem dX1_significand_24 : decode cX1_significand 24 = .ok (.goto 7, 3) := by decide +kernel
theorem dX1_significand_27 : decode cX1_significand 27 = .ok (.lload 5, 2) := by decide +kernel
theorem dX1_significand_29 : decode cX1_significand 29 = .ok (.lload_n 3, 1) := by decide +kernel
theorem dX1_significand_30 : decode cX1_significand 30 = .ok (.lor, 1) := by decide +kernel
theorem dX1_significand_31 : decode cX1_significand 31 = .ok (.lreturn, 1) := by decide +kernel
theorem dX1_exponent_0 : decode cX1_exponent 0 = .ok (.aload_n 0, 1) := by decide +kernel
theorem dX1_exponent_1 : decode cX1_exponent 1 = .ok (.lload_n 1, 1) := by decide +kernel
theorem dX1_exponent_2 : decode cX1_exponent 2 = .ok (.invokevirtual 60, 3) := by decide +kernel
theorem dX1_exponent_5 : decode cX1_exponent 5 = .ok (.iconst 1, 1) := by decide +kernel
theorem dX1_exponent_6 : decode cX1_exponent 6 = .ok (.invokestatic 64, 3) := by decide +kernel
theorem dX1_exponent_9 : decode cX1_exponent 9 = .ok (.iconst 1, 1) := by decide +kernel
theorem dX1_exponent_10 : decode cX1_exponent 10 = .ok (.isub, 1) := by decide +kernel
theorem dX1_exponent_11 : decode cX1_exponent 11 = .ok (.aload_n 0, 1) := by decide +kernel
theorem dX1_exponent_12 : decode cX1_exponent 12 = .ok (.getfield 36, 3) := by decide +kernel
theorem dX1_exponent_15 : decode cX1_exponent 15 = .ok (.iadd, 1) := by decide +kernel
theorem dX1_exponent_16 : decode cX1_exponent 16 = .ok (.ireturn, 1) := by decide +kernel
theorem dX1_exponentField_0 : decode cX1_exponentField 0 = .ok (.lload_n 1, 1) := by decide +kernel
theorem dX1_exponentField_1 : decode cX1_exponentField 1 = .ok (.aload_n 0, 1) := by decide +kernel
theorem dX1_exponentField_2 : decode cX1_exponentField 2 = .ok (.getfield 29, 3) := by decide +kernel
theorem dX1_exponentField_5 : decode cX1_exponentField 5 = .ok (.lushr, 1) := by decide +kernel
theorem dX1_exponentField_6 : decode cX1_exponentField 6 = .ok (.l2i, 1) := by decide +kernel
theorem dX1_exponentField_7 : decode cX1_exponentField 7 = .ok (.aload_n 0, 1) := by decide +kernel
theorem dX1_exponentField_8 : decode cX1_exponentField 8 = .ok (.getfield 33, 3) := by decide +kernel
theorem dX1_exponentField_11 : decode cX1_exponentField 11 = .ok (.iand, 1) := by decide +kernel
theorem dX1_exponentField_12 : decode cX1_exponentField 12 = .ok (.ireturn, 1) := by decide +kernel
theorem dX1_valueRank_0 : decode cX1_valueRank 0 = .ok (.aload_n 0, 1) := by decide +kernel
theorem dX1_valueRank_1 : decode cX1_valueRank 1 = .ok (.lload_n 1, 1) := by decide +kernel
theorem dX1_valueRank_2 : decode cX1_valueRank 2 = .ok (.invokevirtual 57, 3) := by decide +kernel
theorem dX1_valueRank_5 : decode cX1_valueRank 5 = .ok (.ifCond .eq 12, 3) := by decide +kernel
theorem dX1_valueRank_8 : decode cX1_valueRank 8 = .ok (.aload_n 0, 1) := by decide +kernel
theorem dX1_valueRank_9 : decode cX1_valueRank 9 = .ok (.lload_n 1, 1) := by decide +kernel
theorem dX1_valueRank_10 : decode cX1_valueRank 10 = .ok (.invokevirtual 53, 3) := by decide +kernel
theorem dX1_valueRank_13 : decode cX1_valueRank 13 = .ok (.lneg, 1) := by decide +kernel
theorem dX1_valueRank_14 : decode cX1_valueRank 14 = .ok (.goto 8, 3) := by decide +kernel
theorem dX1_valueRank_17 : decode cX1_valueRank 17 = .ok (.aload_n 0, 1) := by decide +kernel
theorem dX1_valueRank_18 : decode cX1_valueRank 18 = .ok (.lload_n 1, 1) := by decide +kernel
theorem dX1_valueRank_19 : decode cX1_valueRank 19 = .ok (.invokevirtual 53, 3) := by decide +kernel
theorem dX1_valueRank_22 : decode cX1_valueRank 22 = .ok (.lreturn, 1) := by decide +kernel
theorem dX1_totalRank_0 : decode cX1_totalRank 0 = .ok (.aload_n 0, 1) := by decide +kernel
theorem dX1_totalRank_1 : decode cX1_totalRank 1 = .ok (.lload_n 1, 1) := by decide +kernel
theorem dX1_totalRank_2 : decode cX1_totalRank 2 = .ok (.invokevirtual 57, 3) := by decide +kernel
theorem dX1_totalRank_5 : decode cX1_totalRank 5 = .ok (.ifCond .eq 15, 3) := by decide +kernel
theorem dX1_totalRank_8 : decode cX1_totalRank 8 = .ok (.ldc2_w 70, 3) := by decide +kernel
theorem dX1_totalRank_11 : decode cX1_totalRank 11 = .ok (.aload_n 0, 1) := by decide +kernel
theorem dX1_totalRank_12 : decode cX1_totalRank 12 = .ok (.lload_n 1, 1) := by decide +kernel
theorem dX1_totalRank_13 : decode cX1_totalRank 13 = .ok (.invokevirtual 53, 3) := by decide +kernel
theorem dX1_totalRank_16 : decode cX1_totalRank 16 = .ok (.lsub, 1) := by decide +kernel
theorem dX1_totalRank_17 : decode cX1_totalRank 17 = .ok (.goto 8, 3) := by decide +kernel
theorem dX1_totalRank_20 : decode cX1_totalRank 20 = .ok (.aload_n 0, 1) := by decide +kernel
theorem dX1_totalRank_21 : decode cX1_totalRank 21 = .ok (.lload_n 1, 1) := by decide +kernel
theorem dX1_totalRank_22 : decode cX1_totalRank 22 = .ok (.invokevirtual 53, 3) := by decide +kernel
theorem dX1_totalRank_25 : decode cX1_totalRank 25 = .ok (.lreturn, 1) := by decide +kernel
theorem dX1_isBelow_0 : decode cX1_isBelow 0 = .ok (.aload_n 0, 1) := by decide +kernel
theorem dX1_isBelow_1 : decode cX1_isBelow 1 = .ok (.lload_n 1, 1) := by decide +kernel
theorem dX1_isBelow_2 : decode cX1_isBelow 2 = .ok (.invokevirtual 49, 3) := by decide +kernel
theorem dX1_isBelow_5 : decode cX1_isBelow 5 = .ok (.ifCond .ne 29, 3) := by decide +kernel
theorem dX1_isBelow_8 : decode cX1_isBelow 8 = .ok (.aload_n 0, 1) := by decide +kernel
theorem dX1_isBelow_9 : decode cX1_isBelow 9 = .ok (.lload_n 3, 1) := by decide +kernel
theorem dX1_isBelow_10 : decode cX1_isBelow 10 = .ok (.invokevirtual 49, 3) := by decide +kernel
theorem dX1_isBelow_13 : decode cX1_isBelow 13 = .ok (.ifCond .ne 21, 3) := by decide +kernel
theorem dX1_isBelow_16 : decode cX1_isBelow 16 = .ok (.aload_n 0, 1) := by decide +kernel
theorem dX1_isBelow_17 : decode cX1_isBelow 17 = .ok (.lload_n 1, 1) := by decide +kernel
theorem dX1_isBelow_18 : decode cX1_isBelow 18 = .ok (.invokevirtual 72, 3) := by decide +kernel
theorem dX1_isBelow_21 : decode cX1_isBelow 21 = .ok (.aload_n 0, 1) := by decide +kernel
theorem dX1_isBelow_22 : decode cX1_isBelow 22 = .ok (.lload_n 3, 1) := by decide +kernel
theorem dX1_isBelow_23 : decode cX1_isBelow 23 = .ok (.invokevirtual 72, 3) := by decide +kernel
theorem dX1_isBelow_26 : decode cX1_isBelow 26 = .ok (.lcmp, 1) := by decide +kernel
theorem dX1_isBelow_27 : decode cX1_isBelow 27 = .ok (.ifCond .ge 7, 3) := by decide +kernel
theorem dX1_isBelow_30 : decode cX1_isBelow 30 = .ok (.iconst 1, 1) := by decide +kernel
theorem dX1_isBelow_31 : decode cX1_isBelow 31 = .ok (.goto 4, 3) := by decide +kernel
theorem dX1_isBelow_34 : decode cX1_isBelow 34 = .ok (.iconst 0, 1) := by decide +kernel
theorem dX1_isBelow_35 : decode cX1_isBelow 35 = .ok (.ireturn, 1) := by decide +kernel
theorem dX1_atMost_0 : decode cX1_atMost 0 = .ok (.aload_n 0, 1) := by decide +kernel
theorem dX1_atMost_1 : decode cX1_atMost 1 = .ok (.lload_n 1, 1) := by decide +kernel
theorem dX1_atMost_2 : decode cX1_atMost 2 = .ok (.invokevirtual 49, 3) := by decide +kernel
theorem dX1_atMost_5 : decode cX1_atMost 5 = .ok (.ifCond .ne 29, 3) := by decide +kernel
theorem dX1_atMost_8 : decode cX1_atMost 8 = .ok (.aload_n 0, 1) := by decide +kernel
theorem dX1_atMost_9 : decode cX1_atMost 9 = .ok (.lload_n 3, 1) := by decide +kernel
theorem dX1_atMost_10 : decode cX1_atMost 10 = .ok (.invokevirtual 49, 3) := by decide +kernel
theorem dX1_atMost_13 : decode cX1_atMost 13 = .ok (.ifCond .ne 21, 3) := by decide +kernel
theorem dX1_atMost_16 : decode cX1_atMost 16 = .ok (.aload_n 0, 1) := by decide +kernel
theorem dX1_atMost_17 : decode cX1_atMost 17 = .ok (.lload_n 1, 1) := by decide +kernel
theorem dX1_atMost_18 : decode cX1_atMost 18 = .ok (.invokevirtual 72, 3) := by decide +kernel
theorem dX1_atMost_21 : decode cX1_atMost 21 = .ok (.aload_n 0, 1) := by decide +kernel
theorem dX1_atMost_22 : decode cX1_atMost 22 = .ok (.lload_n 3, 1) := by decide +kernel
theorem dX1_atMost_23 : decode cX1_atMost 23 = .ok (.invokevirtual 72, 3) := by decide +kernel
theorem dX1_atMost_26 : decode cX1_atMost 26 = .ok (.lcmp, 1) := by decide +kernel
theorem dX1_atMost_27 : decode cX1_atMost 27 = .ok (.ifCond .gt 7, 3) := by decide +kernel
theorem dX1_atMost_30 : decode cX1_atMost 30 = .ok (.iconst 1, 1) := by decide +kernel
theorem dX1_atMost_31 : decode cX1_atMost 31 = .ok (.goto 4, 3) := by decide +kernel
theorem dX1_atMost_34 : decode cX1_atMost 34 = .ok (.iconst 0, 1) := by decide +kernel
theorem dX1_atMost_35 : decode cX1_atMost 35 = .ok (.ireturn, 1) := by decide +kernel
theorem dX1_relations_0 : decode cX1_relations 0 = .ok (.aload_n 0, 1) := by decide +kernel
theorem dX1_relations_1 : decode cX1_relations 1 = .ok (.lload_n 1, 1) := by decide +kernel
theorem dX1_relations_2 : decode cX1_relations 2 = .ok (.lload_n 3, 1) := by decide +kernel
theorem dX1_relations_3 : decode cX1_relations 3 = .ok (.invokevirtual 75, 3) := by decide +kernel
theorem dX1_relations_6 : decode cX1_relations 6 = .ok (.ifCond .eq 6, 3) := by decide +kernel
theorem dX1_relations_9 : decode cX1_relations 9 = .ok (.bipush 41, 2) := by decide +kernel
theorem dX1_relations_11 : decode cX1_relations 11 = .ok (.ireturn, 1) := by decide +kernel
theorem dX1_relations_12 : decode cX1_relations 12 = .ok (.aload_n 0, 1) := by decide +kernel
theorem dX1_relations_13 : decode cX1_relations 13 = .ok (.lload_n 3, 1) := by decide +kernel
theorem dX1_relations_14 : decode cX1_relations 14 = .ok (.lload_n 1, 1) := by decide +kernel
theorem dX1_relations_15 : decode cX1_relations 15 = .ok (.invokevirtual 75, 3) := by decide +kernel
theorem dX1_relations_18 : decode cX1_relations 18 = .ok (.ifCond .eq 6, 3) := by decide +kernel
theorem dX1_relations_21 : decode cX1_relations 21 = .ok (.bipush 52, 2) := by decide +kernel
theorem dX1_relations_23 : decode cX1_relations 23 = .ok (.ireturn, 1) := by decide +kernel
theorem dX1_relations_24 : decode cX1_relations 24 = .ok (.aload_n 0, 1) := by decide +kernel
theorem dX1_relations_25 : decode cX1_relations 25 = .ok (.lload_n 1, 1) := by decide +kernel
theorem dX1_relations_26 : decode cX1_relations 26 = .ok (.lload_n 3, 1) := by decide +kernel
theorem dX1_relations_27 : decode cX1_relations 27 = .ok (.invokevirtual 79, 3) := by decide +kernel
theorem dX1_relations_30 : decode cX1_relations 30 = .ok (.ifCond .eq 8, 3) := by decide +kernel
theorem dX1_relations_33 : decode cX1_relations 33 = .ok (.bipush 26, 2) := by decide +kernel
theorem dX1_relations_35 : decode cX1_relations 35 = .ok (.goto 5, 3) := by decide +kernel
theorem dX1_relations_38 : decode cX1_relations 38 = .ok (.bipush 32, 2) := by decide +kernel
theorem dX1_relations_40 : decode cX1_relations 40 = .ok (.ireturn, 1) := by decide +kernel
theorem dX1_lesser_0 : decode cX1_lesser 0 = .ok (.aload_n 0, 1) := by decide +kernel
theorem dX1_lesser_1 : decode cX1_lesser 1 = .ok (.lload_n 1, 1) := by decide +kernel
theorem dX1_lesser_2 : decode cX1_lesser 2 = .ok (.invokevirtual 82, 3) := by decide +kernel
theorem dX1_lesser_5 : decode cX1_lesser 5 = .ok (.aload_n 0, 1) := by decide +kernel
theorem dX1_lesser_6 : decode cX1_lesser 6 = .ok (.lload_n 3, 1) := by decide +kernel
theorem dX1_lesser_7 : decode cX1_lesser 7 = .ok (.invokevirtual 82, 3) := by decide +kernel
theorem dX1_lesser_10 : decode cX1_lesser 10 = .ok (.lcmp, 1) := by decide +kernel
theorem dX1_lesser_11 : decode cX1_lesser 11 = .ok (.ifCond .gt 7, 3) := by decide +kernel
theorem dX1_lesser_14 : decode cX1_lesser 14 = .ok (.lload_n 1, 1) := by decide +kernel
theorem dX1_lesser_15 : decode cX1_lesser 15 = .ok (.goto 4, 3) := by decide +kernel
theorem dX1_lesser_18 : decode cX1_lesser 18 = .ok (.lload_n 3, 1) := by decide +kernel
theorem dX1_lesser_19 : decode cX1_lesser 19 = .ok (.lreturn, 1) := by decide +kernel
theorem dX1_greater_0 : decode cX1_greater 0 = .ok (.aload_n 0, 1) := by decide +kernel
theorem dX1_greater_1 : decode cX1_greater 1 = .ok (.lload_n 1, 1) := by decide +kernel
theorem dX1_greater_2 : decode cX1_greater 2 = .ok (.invokevirtual 82, 3) := by decide +kernel
theorem dX1_greater_5 : decode cX1_greater 5 = .ok (.aload_n 0, 1) := by decide +kernel
theorem dX1_greater_6 : decode cX1_greater 6 = .ok (.lload_n 3, 1) := by decide +kernel
theorem dX1_greater_7 : decode cX1_greater 7 = .ok (.invokevirtual 82, 3) := by decide +kernel
theorem dX1_greater_10 : decode cX1_greater 10 = .ok (.lcmp, 1) := by decide +kernel
theorem dX1_greater_11 : decode cX1_greater 11 = .ok (.ifCond .lt 7, 3) := by decide +kernel
theorem dX1_greater_14 : decode cX1_greater 14 = .ok (.lload_n 1, 1) := by decide +kernel
theorem dX1_greater_15 : decode cX1_greater 15 = .ok (.goto 4, 3) := by decide +kernel
theorem dX1_greater_18 : decode cX1_greater 18 = .ok (.lload_n 3, 1) := by decide +kernel
theorem dX1_greater_19 : decode cX1_greater 19 = .ok (.lreturn, 1) := by decide +kernel
theorem dX1_stepped_0 : decode cX1_stepped 0 = .ok (.iload_n 3, 1) := by decide +kernel
theorem dX1_stepped_1 : decode cX1_stepped 1 = .ok (.ifCond .eq 11, 3) := by decide +kernel
theorem dX1_stepped_4 : decode cX1_stepped 4 = .ok (.aload_n 0, 1) := by decide +kernel
theorem dX1_stepped_5 : decode cX1_stepped 5 = .ok (.lload_n 1, 1) := by decide +kernel
theorem dX1_stepped_6 : decode cX1_stepped 6 = .ok (.invokevirtual 49, 3) := by decide +kernel
theorem dX1_stepped_9 : decode cX1_stepped 9 = .ok (.ifCond .eq 5, 3) := by decide +kernel
theorem dX1_stepped_12 : decode cX1_stepped 12 = .ok (.lload_n 1, 1) := by decide +kernel
theorem dX1_stepped_13 : decode cX1_stepped 13 = .ok (.lreturn, 1) := by decide +kernel
theorem dX1_stepped_14 : decode cX1_stepped 14 = .ok (.aload_n 0, 1) := by decide +kernel
theorem dX1_stepped_15 : decode cX1_stepped 15 = .ok (.getfield 43, 3) := by decide +kernel
theorem dX1_stepped_18 : decode cX1_stepped 18 = .ok (.lneg, 1) := by decide +kernel
theorem dX1_stepped_19 : decode cX1_stepped 19 = .ok (.aload_n 0, 1) := by decide +kernel
theorem dX1_stepped_20 : decode cX1_stepped 20 = .ok (.getfield 43, 3) := by decide +kernel
theorem dX1_stepped_23 : decode cX1_stepped 23 = .ok (.aload_n 0, 1) := by decide +kernel
theorem dX1_stepped_24 : decode cX1_stepped 24 = .ok (.lload_n 1, 1) := by decide +kernel
theorem dX1_stepped_25 : decode cX1_stepped 25 = .ok (.invokevirtual 72, 3) := by decide +kernel
theorem dX1_stepped_28 : decode cX1_stepped 28 = .ok (.iload_n 3, 1) := by decide +kernel
theorem dX1_stepped_29 : decode cX1_stepped 29 = .ok (.i2l, 1) := by decide +kernel
theorem dX1_stepped_30 : decode cX1_stepped 30 = .ok (.ladd, 1) := by decide +kernel
theorem dX1_stepped_31 : decode cX1_stepped 31 = .ok (.invokestatic 85, 3) := by decide +kernel
theorem dX1_stepped_34 : decode cX1_stepped 34 = .ok (.invokestatic 89, 3) := by decide +kernel
theorem dX1_stepped_37 : decode cX1_stepped 37 = .ok (.lstore 4, 2) := by decide +kernel
theorem dX1_stepped_39 : decode cX1_stepped 39 = .ok (.lload 4, 2) := by decide +kernel
theorem dX1_stepped_41 : decode cX1_stepped 41 = .ok (.lconst 0, 1) := by decide +kernel
theorem dX1_stepped_42 : decode cX1_stepped 42 = .ok (.lcmp, 1) := by decide +kernel
theorem dX1_stepped_43 : decode cX1_stepped 43 = .ok (.ifCond .ne 18, 3) := by decide +kernel
theorem dX1_stepped_46 : decode cX1_stepped 46 = .ok (.aload_n 0, 1) := by decide +kernel
theorem dX1_stepped_47 : decode cX1_stepped 47 = .ok (.iload_n 3, 1) := by decide +kernel
theorem dX1_stepped_48 : decode cX1_stepped 48 = .ok (.ifCond .le 7, 3) := by decide +kernel
theorem dX1_stepped_51 : decode cX1_stepped 51 = .ok (.iconst 1, 1) := by decide +kernel
theorem dX1_stepped_52 : decode cX1_stepped 52 = .ok (.goto 4, 3) := by decide +kernel
theorem dX1_stepped_55 : decode cX1_stepped 55 = .ok (.iconst 0, 1) := by decide +kernel
theorem dX1_stepped_56 : decode cX1_stepped 56 = .ok (.lconst 0, 1) := by decide +kernel
theorem dX1_stepped_57 : decode cX1_stepped 57 = .ok (.invokevirtual 91, 3) := by decide +kernel
theorem dX1_stepped_60 : decode cX1_stepped 60 = .ok (.lreturn, 1) := by decide +kernel
theorem dX1_stepped_61 : decode cX1_stepped 61 = .ok (.aload_n 0, 1) := by decide +kernel
theorem dX1_stepped_62 : decode cX1_stepped 62 = .ok (.lload 4, 2) := by decide +kernel
theorem dX1_stepped_64 : decode cX1_stepped 64 = .ok (.lconst 0, 1) := by decide +kernel
theorem dX1_stepped_65 : decode cX1_stepped 65 = .ok (.lcmp, 1) := by decide +kernel
theorem dX1_stepped_66 : decode cX1_stepped 66 = .ok (.ifCond .ge 7, 3) := by decide +kernel
theorem dX1_stepped_69 : decode cX1_stepped 69 = .ok (.iconst 1, 1) := by decide +kernel
theorem dX1_stepped_70 : decode cX1_stepped 70 = .ok (.goto 4, 3) := by decide +kernel
theorem dX1_stepped_73 : decode cX1_stepped 73 = .ok (.iconst 0, 1) := by decide +kernel
theorem dX1_stepped_74 : decode cX1_stepped 74 = .ok (.lload 4, 2) := by decide +kernel
theorem dX1_stepped_76 : decode cX1_stepped 76 = .ok (.invokestatic 95, 3) := by decide +kernel
theorem dX1_stepped_79 : decode cX1_stepped 79 = .ok (.invokevirtual 91, 3) := by decide +kernel
theorem dX1_stepped_82 : decode cX1_stepped 82 = .ok (.lreturn, 1) := by decide +kernel
theorem dX1_rounded_0 : decode cX1_rounded 0 = .ok (.lload_n 2, 1) := by decide +kernel
theorem dX1_rounded_1 : decode cX1_rounded 1 = .ok (.lconst 0, 1) := by decide +kernel
theorem dX1_rounded_2 : decode cX1_rounded 2 = .ok (.lcmp, 1) := by decide +kernel
theorem dX1_rounded_3 : decode cX1_rounded 3 = .ok (.ifCond .ne 10, 3) := by decide +kernel
theorem dX1_rounded_6 : decode cX1_rounded 6 = .ok (.aload_n 0, 1) := by decide +kernel
theorem dX1_rounded_7 : decode cX1_rounded 7 = .ok (.iload_n 1, 1) := by decide +kernel
theorem dX1_rounded_8 : decode cX1_rounded 8 = .ok (.lconst 0, 1) := by decide +kernel
theorem dX1_rounded_9 : decode cX1_rounded 9 = .ok (.invokevirtual 91, 3) := by decide +kernel
theorem dX1_rounded_12 : decode cX1_rounded 12 = .ok (.lreturn, 1) := by decide +kernel
theorem dX1_rounded_13 : decode cX1_rounded 13 = .ok (.bipush 64, 2) := by decide +kernel
theorem dX1_rounded_15 : decode cX1_rounded 15 = .ok (.lload_n 2, 1) := by decide +kernel
theorem dX1_rounded_16 : decode cX1_rounded 16 = .ok (.invokestatic 98, 3) := by decide +kernel
theorem dX1_rounded_19 : decode cX1_rounded 19 = .ok (.isub, 1) := by decide +kernel
theorem dX1_rounded_20 : decode cX1_rounded 20 = .ok (.istore 5, 2) := by decide +kernel
theorem dX1_rounded_22 : decode cX1_rounded 22 = .ok (.iload 5, 2) := by decide +kernel
theorem dX1_rounded_24 : decode cX1_rounded 24 = .ok (.iconst 1, 1) := by decide +kernel
theorem dX1_rounded_25 : decode cX1_rounded 25 = .ok (.isub, 1) := by decide +kernel
theorem dX1_rounded_26 : decode cX1_rounded 26 = .ok (.aload_n 0, 1) := by decide +kernel
theorem dX1_rounded_27 : decode cX1_rounded 27 = .ok (.getfield 29, 3) := by decide +kernel
theorem dX1_rounded_30 : decode cX1_rounded 30 = .ok (.isub, 1) := by decide +kernel
theorem dX1_rounded_31 : decode cX1_rounded 31 = .ok (.aload_n 0, 1) := by decide +kernel
theorem dX1_rounded_32 : decode cX1_rounded 32 = .ok (.getfield 36, 3) := by decide +kernel
theorem dX1_rounded_35 : decode cX1_rounded 35 = .ok (.iload 4, 2) := by decide +kernel
theorem dX1_rounded_37 : decode cX1_rounded 37 = .ok (.isub, 1) := by decide +kernel
theorem dX1_rounded_38 : decode cX1_rounded 38 = .ok (.invokestatic 64, 3) := by decide +kernel
theorem dX1_rounded_41 : decode cX1_rounded 41 = .ok (.istore 6, 2) := by decide +kernel
theorem dX1_rounded_43 : decode cX1_rounded 43 = .ok (.iload 4, 2) := by decide +kernel
theorem dX1_rounded_45 : decode cX1_rounded 45 = .ok (.iload 6, 2) := by decide +kernel
theorem dX1_rounded_47 : decode cX1_rounded 47 = .ok (.iadd, 1) := by decide +kernel
theorem dX1_rounded_48 : decode cX1_rounded 48 = .ok (.aload_n 0, 1) := by decide +kernel
theorem dX1_rounded_49 : decode cX1_rounded 49 = .ok (.getfield 36, 3) := by decide +kernel
theorem dX1_rounded_52 : decode cX1_rounded 52 = .ok (.isub, 1) := by decide +kernel
theorem dX1_rounded_53 : decode cX1_rounded 53 = .ok (.istore 7, 2) := by decide +kernel
theorem dX1_rounded_55 : decode cX1_rounded 55 = .ok (.iload 7, 2) := by decide +kernel
theorem dX1_rounded_57 : decode cX1_rounded 57 = .ok (.aload_n 0, 1) := by decide +kernel
theorem dX1_rounded_58 : decode cX1_rounded 58 = .ok (.getfield 33, 3) := by decide +kernel
theorem dX1_rounded_61 : decode cX1_rounded 61 = .ok (.iconst 1, 1) := by decide +kernel
theorem dX1_rounded_62 : decode cX1_rounded 62 = .ok (.isub, 1) := by decide +kernel
theorem dX1_rounded_63 : decode cX1_rounded 63 = .ok (.if_icmp .lt 13, 3) := by decide +kernel
theorem dX1_rounded_66 : decode cX1_rounded 66 = .ok (.aload_n 0, 1) := by decide +kernel
theorem dX1_rounded_67 : decode cX1_rounded 67 = .ok (.iload_n 1, 1) := by decide +kernel
theorem dX1_rounded_68 : decode cX1_rounded 68 = .ok (.aload_n 0, 1) := by decide +kernel
theorem dX1_rounded_69 : decode cX1_rounded 69 = .ok (.getfield 43, 3) := by decide +kernel
theorem dX1_rounded_72 : decode cX1_rounded 72 = .ok (.invokevirtual 91, 3) := by decide +kernel
theorem dX1_rounded_75 : decode cX1_rounded 75 = .ok (.lreturn, 1) := by decide +kernel
theorem dX1_rounded_76 : decode cX1_rounded 76 = .ok (.iload 7, 2) := by decide +kernel
theorem dX1_rounded_78 : decode cX1_rounded 78 = .ok (.i2l, 1) := by decide +kernel
theorem dX1_rounded_79 : decode cX1_rounded 79 = .ok (.aload_n 0, 1) := by decide +kernel
theorem dX1_rounded_80 : decode cX1_rounded 80 = .ok (.getfield 29, 3) := by decide +kernel
theorem dX1_rounded_83 : decode cX1_rounded 83 = .ok (.lshl, 1) := by decide +kernel
theorem dX1_rounded_84 : decode cX1_rounded 84 = .ok (.lload_n 2, 1) := by decide +kernel
theorem dX1_rounded_85 : decode cX1_rounded 85 = .ok (.iload 6, 2) := by decide +kernel
theorem dX1_rounded_87 : decode cX1_rounded 87 = .ok (.invokestatic 103, 3) := by decide +kernel
theorem dX1_rounded_90 : decode cX1_rounded 90 = .ok (.ladd, 1) := by decide +kernel
theorem dX1_rounded_91 : decode cX1_rounded 91 = .ok (.lstore 8, 2) := by decide +kernel
theorem dX1_rounded_93 : decode cX1_rounded 93 = .ok (.aload_n 0, 1) := by decide +kernel
theorem dX1_rounded_94 : decode cX1_rounded 94 = .ok (.iload_n 1, 1) := by decide +kernel
theorem dX1_rounded_95 : decode cX1_rounded 95 = .ok (.lload 8, 2) := by decide +kernel
theorem dX1_rounded_97 : decode cX1_rounded 97 = .ok (.invokevirtual 91, 3) := by decide +kernel
theorem dX1_rounded_100 : decode cX1_rounded 100 = .ok (.lreturn, 1) := by decide +kernel
theorem dX1_withoutLast_0 : decode cX1_withoutLast 0 = .ok (.iload_n 2, 1) := by decide +kernel
theorem dX1_withoutLast_1 : decode cX1_withoutLast 1 = .ok (.ifCond .gt 8, 3) := by decide +kernel
theorem dX1_withoutLast_4 : decode cX1_withoutLast 4 = .ok (.lload_n 0, 1) := by decide +kernel
theorem dX1_withoutLast_5 : decode cX1_withoutLast 5 = .ok (.iload_n 2, 1) := by decide +kernel
theorem dX1_withoutLast_6 : decode cX1_withoutLast 6 = .ok (.ineg, 1) := by decide +kernel
theorem dX1_withoutLast_7 : decode cX1_withoutLast 7 = .ok (.lshl, 1) := by decide +kernel
theorem dX1_withoutLast_8 : decode cX1_withoutLast 8 = .ok (.lreturn, 1) := by decide +kernel
theorem dX1_withoutLast_9 : decode cX1_withoutLast 9 = .ok (.iload_n 2, 1) := by decide +kernel
theorem dX1_withoutLast_10 : decode cX1_withoutLast 10 = .ok (.bipush 63, 2) := by decide +kernel
theorem dX1_withoutLast_12 : decode cX1_withoutLast 12 = .ok (.if_icmp .le 5, 3) := by decide +kernel
theorem dX1_withoutLast_15 : decode cX1_withoutLast 15 = .ok (.lconst 0, 1) := by decide +kernel
theorem dX1_withoutLast_16 : decode cX1_withoutLast 16 = .ok (.lreturn, 1) := by decide +kernel
theorem dX1_withoutLast_17 : decode cX1_withoutLast 17 = .ok (.lload_n 0, 1) := by decide +kernel
theorem dX1_withoutLast_18 : decode cX1_withoutLast 18 = .ok (.iload_n 2, 1) := by decide +kernel
theorem dX1_withoutLast_19 : decode cX1_withoutLast 19 = .ok (.lushr, 1) := by decide +kernel
theorem dX1_withoutLast_20 : decode cX1_withoutLast 20 = .ok (.lstore_n 3, 1) := by decide +kernel
theorem dX1_withoutLast_21 : decode cX1_withoutLast 21 = .ok (.lload_n 0, 1) := by decide +kernel
theorem dX1_withoutLast_22 : decode cX1_withoutLast 22 = .ok (.lconst 1, 1) := by decide +kernel
theorem dX1_withoutLast_23 : decode cX1_withoutLast 23 = .ok (.iload_n 2, 1) := by decide +kernel
theorem dX1_withoutLast_24 : decode cX1_withoutLast 24 = .ok (.lshl, 1) := by decide +kernel
theorem dX1_withoutLast_25 : decode cX1_withoutLast 25 = .ok (.lconst 1, 1) := by decide +kernel
theorem dX1_withoutLast_26 : decode cX1_withoutLast 26 = .ok (.lsub, 1) := by decide +kernel
theorem dX1_withoutLast_27 : decode cX1_withoutLast 27 = .ok (.land, 1) := by decide +kernel
theorem dX1_withoutLast_28 : decode cX1_withoutLast 28 = .ok (.lstore 5, 2) := by decide +kernel
theorem dX1_withoutLast_30 : decode cX1_withoutLast 30 = .ok (.lconst 1, 1) := by decide +kernel
theorem dX1_withoutLast_31 : decode cX1_withoutLast 31 = .ok (.iload_n 2, 1) := by decide +kernel
theorem dX1_withoutLast_32 : decode cX1_withoutLast 32 = .ok (.iconst 1, 1) := by decide +kernel
theorem dX1_withoutLast_33 : decode cX1_withoutLast 33 = .ok (.isub, 1) := by decide +kernel
theorem dX1_withoutLast_34 : decode cX1_withoutLast 34 = .ok (.lshl, 1) := by decide +kernel
theorem dX1_withoutLast_35 : decode cX1_withoutLast 35 = .ok (.lstore 7, 2) := by decide +kernel
theorem dX1_withoutLast_37 : decode cX1_withoutLast 37 = .ok (.lload 5, 2) := by decide +kernel
theorem dX1_withoutLast_39 : decode cX1_withoutLast 39 = .ok (.lload 7, 2) := by decide +kernel
theorem dX1_withoutLast_41 : decode cX1_withoutLast 41 = .ok (.lcmp, 1) := by decide +kernel
theorem dX1_withoutLast_42 : decode cX1_withoutLast 42 = .ok (.ifCond .gt 19, 3) := by decide +kernel
theorem dX1_withoutLast_45 : decode cX1_withoutLast 45 = .ok (.lload 5, 2) := by decide +kernel
theorem dX1_withoutLast_47 : decode cX1_withoutLast 47 = .ok (.lload 7, 2) := by decide +kernel
theorem dX1_withoutLast_49 : decode cX1_withoutLast 49 = .ok (.lcmp, 1) := by decide +kernel
theorem dX1_withoutLast_50 : decode cX1_withoutLast 50 = .ok (.ifCond .ne 15, 3) := by decide +kernel
theorem dX1_withoutLast_53 : decode cX1_withoutLast 53 = .ok (.lload_n 3, 1) := by decide +kernel
theorem dX1_withoutLast_54 : decode cX1_withoutLast 54 = .ok (.lconst 1, 1) := by decide +kernel
theorem dX1_withoutLast_55 : decode cX1_withoutLast 55 = .ok (.land, 1) := by decide +kernel
theorem dX1_withoutLast_56 : decode cX1_withoutLast 56 = .ok (.lconst 1, 1) := by decide +kernel
theorem dX1_withoutLast_57 : decode cX1_withoutLast 57 = .ok (.lcmp, 1) := by decide +kernel
theorem dX1_withoutLast_58 : decode cX1_withoutLast 58 = .ok (.ifCond .ne 7, 3) := by decide +kernel
theorem dX1_withoutLast_61 : decode cX1_withoutLast 61 = .ok (.iconst 1, 1) := by decide +kernel
theorem dX1_withoutLast_62 : decode cX1_withoutLast 62 = .ok (.goto 4, 3) := by decide +kernel
theorem dX1_withoutLast_65 : decode cX1_withoutLast 65 = .ok (.iconst 0, 1) := by decide +kernel
theorem dX1_withoutLast_66 : decode cX1_withoutLast 66 = .ok (.istore 9, 2) := by decide +kernel
theorem dX1_withoutLast_68 : decode cX1_withoutLast 68 = .ok (.iload 9, 2) := by decide +kernel
theorem dX1_withoutLast_70 : decode cX1_withoutLast 70 = .ok (.ifCond .eq 9, 3) := by decide +kernel
theorem dX1_withoutLast_73 : decode cX1_withoutLast 73 = .ok (.lload_n 3, 1) := by decide +kernel
theorem dX1_withoutLast_74 : decode cX1_withoutLast 74 = .ok (.lconst 1, 1) := by decide +kernel
theorem dX1_withoutLast_75 : decode cX1_withoutLast 75 = .ok (.ladd, 1) := by decide +kernel
theorem dX1_withoutLast_76 : decode cX1_withoutLast 76 = .ok (.goto 4, 3) := by decide +kernel
theorem dX1_withoutLast_79 : decode cX1_withoutLast 79 = .ok (.lload_n 3, 1) := by decide +kernel
theorem dX1_withoutLast_80 : decode cX1_withoutLast 80 = .ok (.lreturn, 1) := by decide +kernel
theorem dX2_acted_0 : decode cX2_acted 0 = .ok (.aload_n 0, 1) := by decide +kernel
theorem dX2_acted_1 : decode cX2_acted 1 = .ok (.lload_n 2, 1) := by decide +kernel
theorem dX2_acted_2 : decode cX2_acted 2 = .ok (.invokevirtual 11, 3) := by decide +kernel
theorem dX2_acted_5 : decode cX2_acted 5 = .ok (.ifCond .ne 19, 3) := by decide +kernel
theorem dX2_acted_8 : decode cX2_acted 8 = .ok (.iload_n 1, 1) := by decide +kernel
theorem dX2_acted_9 : decode cX2_acted 9 = .ok (.invokestatic 17, 3) := by decide +kernel
theorem dX2_acted_12 : decode cX2_acted 12 = .ok (.ifCond .eq 17, 3) := by decide +kernel
theorem dX2_acted_15 : decode cX2_acted 15 = .ok (.aload_n 0, 1) := by decide +kernel
theorem dX2_acted_16 : decode cX2_acted 16 = .ok (.lload 4, 2) := by decide +kernel
theorem dX2_acted_18 : decode cX2_acted 18 = .ok (.invokevirtual 11, 3) := by decide +kernel
theorem dX2_acted_21 : decode cX2_acted 21 = .ok (.ifCond .eq 8, 3) := by decide +kernel
theorem dX2_acted_24 : decode cX2_acted 24 = .ok (.aload_n 0, 1) := by decide +kernel
theorem dX2_acted_25 : decode cX2_acted 25 = .ok (.getfield 21, 3) := by decide +kernel
theorem dX2_acted_28 : decode cX2_acted 28 = .ok (.lreturn, 1) := by decide +kernel
theorem dX2_acted_29 : decode cX2_acted 29 = .ok (.iload_n 1, 1) := by decide +kernel
theorem dX2_acted_30 : decode cX2_acted 30 = .ok (.tableswitch 179 0 12 #[66, 72, 80, 88, 88, 88, 95, 123, 139, 147, 155, 163, 171], 66) := by decide +kernel
theorem dX2_acted_96 : decode cX2_acted 96 = .ok (.aload_n 0, 1) := by decide +kernel
theorem dX2_acted_97 : decode cX2_acted 97 = .ok (.lload_n 2, 1) := by decide +kernel
theorem dX2_acted_98 : decode cX2_acted 98 = .ok (.invokevirtual 25, 3) := by decide +kernel
theorem dX2_acted_101 : decode cX2_acted 101 = .ok (.lreturn, 1) := by decide +kernel
theorem dX2_acted_102 : decode cX2_acted 102 = .ok (.aload_n 0, 1) := by decide +kernel
theorem dX2_acted_103 : decode cX2_acted 103 = .ok (.lload_n 2, 1) := by decide +kernel
theorem dX2_acted_104 : decode cX2_acted 104 = .ok (.lload 4, 2) := by decide +kernel
theorem dX2_acted_106 : decode cX2_acted 106 = .ok (.invokevirtual 29, 3) := by decide +kernel
theorem dX2_acted_109 : decode cX2_acted 109 = .ok (.lreturn, 1) := by decide +kernel
theorem dX2_acted_110 : decode cX2_acted 110 = .ok (.aload_n 0, 1) := by decide +kernel
theorem dX2_acted_111 : decode cX2_acted 111 = .ok (.lload_n 2, 1) := by decide +kernel
theorem dX2_acted_112 : decode cX2_acted 112 = .ok (.lload 4, 2) := by decide +kernel
theorem dX2_acted_114 : decode cX2_acted 114 = .ok (.invokevirtual 33, 3) := by decide +kernel
theorem dX2_acted_117 : decode cX2_acted 117 = .ok (.lreturn, 1) := by decide +kernel
theorem dX2_acted_118 : decode cX2_acted 118 = .ok (.aload_n 0, 1) := by decide +kernel
theorem dX2_acted_119 : decode cX2_acted 119 = .ok (.lload_n 2, 1) := by decide +kernel
theorem dX2_acted_120 : decode cX2_acted 120 = .ok (.iload_n 1, 1) := by decide +kernel
theorem dX2_acted_121 : decode cX2_acted 121 = .ok (.invokestatic 36, 3) := by decide +kernel
theorem dX2_acted_124 : decode cX2_acted 124 = .ok (.lreturn, 1) := by decide +kernel
theorem dX2_acted_125 : decode cX2_acted 125 = .ok (.aload_n 0, 1) := by decide +kernel
theorem dX2_acted_126 : decode cX2_acted 126 = .ok (.lload_n 2, 1) := by decide +kernel
theorem dX2_acted_127 : decode cX2_acted 127 = .ok (.invokevirtual 25, 3) := by decide +kernel
theorem dX2_acted_130 : decode cX2_acted 130 = .ok (.lconst 0, 1) := by decide +kernel
theorem dX2_acted_131 : decode cX2_acted 131 = .ok (.lcmp, 1) := by decide +kernel
theorem dX2_acted_132 : decode cX2_acted 132 = .ok (.ifCond .ne 7, 3) := by decide +kernel
theorem dX2_acted_135 : decode cX2_acted 135 = .ok (.lload_n 2, 1) := by decide +kernel
theorem dX2_acted_136 : decode cX2_acted 136 = .ok (.goto 16, 3) := by decide +kernel
theorem dX2_acted_139 : decode cX2_acted 139 = .ok (.aload_n 0, 1) := by decide +kernel
theorem dX2_acted_140 : decode cX2_acted 140 = .ok (.aload_n 0, 1) := by decide +kernel
theorem dX2_acted_141 : decode cX2_acted 141 = .ok (.lload_n 2, 1) := by decide +kernel
theorem dX2_acted_142 : decode cX2_acted 142 = .ok (.invokevirtual 40, 3) := by decide +kernel
theorem dX2_acted_145 : decode cX2_acted 145 = .ok (.aload_n 0, 1) := by decide +kernel
theorem dX2_acted_146 : decode cX2_acted 146 = .ok (.invokevirtual 43, 3) := by decide +kernel
theorem dX2_acted_149 : decode cX2_acted 149 = .ok (.invokevirtual 47, 3) := by decide +kernel
theorem dX2_acted_152 : decode cX2_acted 152 = .ok (.lreturn, 1) := by decide +kernel
theorem dX2_acted_153 : decode cX2_acted 153 = .ok (.aload_n 0, 1) := by decide +kernel
theorem dX2_acted_154 : decode cX2_acted 154 = .ok (.aload_n 0, 1) := by decide +kernel
theorem dX2_acted_155 : decode cX2_acted 155 = .ok (.lload 4, 2) := by decide +kernel
theorem dX2_acted_157 : decode cX2_acted 157 = .ok (.invokevirtual 40, 3) := by decide +kernel
theorem dX2_acted_160 : decode cX2_acted 160 = .ok (.aload_n 0, 1) := by decide +kernel
theorem dX2_acted_161 : decode cX2_acted 161 = .ok (.lload_n 2, 1) := by decide +kernel
theorem dX2_acted_162 : decode cX2_acted 162 = .ok (.invokevirtual 25, 3) := by decide +kernel
theorem dX2_acted_165 : decode cX2_acted 165 = .ok (.invokevirtual 47, 3) := by decide +kernel
theorem dX2_acted_168 : decode cX2_acted 168 = .ok (.lreturn, 1) := by decide +kernel
theorem dX2_acted_169 : decode cX2_acted 169 = .ok (.aload_n 0, 1) := by decide +kernel
theorem dX2_acted_170 : decode cX2_acted 170 = .ok (.lload_n 2, 1) := by decide +kernel
theorem dX2_acted_171 : decode cX2_acted 171 = .ok (.lload 4, 2) := by decide +kernel
theorem dX2_acted_173 : decode cX2_acted 173 = .ok (.invokestatic 51, 3) := by decide +kernel
theorem dX2_acted_176 : decode cX2_acted 176 = .ok (.lreturn, 1) := by decide +kernel
theorem dX2_acted_177 : decode cX2_acted 177 = .ok (.aload_n 0, 1) := by decide +kernel
theorem dX2_acted_178 : decode cX2_acted 178 = .ok (.lload_n 2, 1) := by decide +kernel
theorem dX2_acted_179 : decode cX2_acted 179 = .ok (.lload 4, 2) := by decide +kernel
theorem dX2_acted_181 : decode cX2_acted 181 = .ok (.invokestatic 55, 3) := by decide +kernel
theorem dX2_acted_184 : decode cX2_acted 184 = .ok (.lreturn, 1) := by decide +kernel
theorem dX2_acted_185 : decode cX2_acted 185 = .ok (.aload_n 0, 1) := by decide +kernel
theorem dX2_acted_186 : decode cX2_acted 186 = .ok (.lload_n 2, 1) := by decide +kernel
theorem dX2_acted_187 : decode cX2_acted 187 = .ok (.lload 4, 2) := by decide +kernel
theorem dX2_acted_189 : decode cX2_acted 189 = .ok (.invokestatic 58, 3) := by decide +kernel
theorem dX2_acted_192 : decode cX2_acted 192 = .ok (.lreturn, 1) := by decide +kernel
theorem dX2_acted_193 : decode cX2_acted 193 = .ok (.aload_n 0, 1) := by decide +kernel
theorem dX2_acted_194 : decode cX2_acted 194 = .ok (.lload_n 2, 1) := by decide +kernel
theorem dX2_acted_195 : decode cX2_acted 195 = .ok (.lload 4, 2) := by decide +kernel
theorem dX2_acted_197 : decode cX2_acted 197 = .ok (.invokestatic 61, 3) := by decide +kernel
theorem dX2_acted_200 : decode cX2_acted 200 = .ok (.lreturn, 1) := by decide +kernel
theorem dX2_acted_201 : decode cX2_acted 201 = .ok (.aload_n 0, 1) := by decide +kernel
theorem dX2_acted_202 : decode cX2_acted 202 = .ok (.lload_n 2, 1) := by decide +kernel
theorem dX2_acted_203 : decode cX2_acted 203 = .ok (.lload 4, 2) := by decide +kernel
theorem dX2_acted_205 : decode cX2_acted 205 = .ok (.invokestatic 64, 3) := by decide +kernel
theorem dX2_acted_208 : decode cX2_acted 208 = .ok (.lreturn, 1) := by decide +kernel
theorem dX2_acted_209 : decode cX2_acted 209 = .ok (.aload_n 0, 1) := by decide +kernel
theorem dX2_acted_210 : decode cX2_acted 210 = .ok (.lload_n 2, 1) := by decide +kernel
theorem dX2_acted_211 : decode cX2_acted 211 = .ok (.invokevirtual 67, 3) := by decide +kernel
theorem dX2_acted_214 : decode cX2_acted 214 = .ok (.lreturn, 1) := by decide +kernel
theorem dX2_namesSecond_0 : decode cX2_namesSecond 0 = .ok (.iload_n 0, 1) := by decide +kernel
theorem dX2_namesSecond_1 : decode cX2_namesSecond 1 = .ok (.iconst 1, 1) := by decide +kernel
theorem dX2_namesSecond_2 : decode cX2_namesSecond 2 = .ok (.if_icmp .eq 20, 3) := by decide +kernel
theorem dX2_namesSecond_5 : decode cX2_namesSecond 5 = .ok (.iload_n 0, 1) := by decide +kernel
theorem dX2_namesSecond_6 : decode cX2_namesSecond 6 = .ok (.iconst 2, 1) := by decide +kernel
theorem dX2_namesSecond_7 : decode cX2_namesSecond 7 = .ok (.if_icmp .eq 15, 3) := by decide +kernel
theorem dX2_namesSecond_10 : decode cX2_namesSecond 10 = .ok (.iload_n 0, 1) := by decide +kernel
theorem dX2_namesSecond_11 : decode cX2_namesSecond 11 = .ok (.bipush 7, 2) := by decide +kernel
theorem dX2_namesSecond_13 : decode cX2_namesSecond 13 = .ok (.if_icmp .lt 13, 3) := by decide +kernel
theorem dX2_namesSecond_16 : decode cX2_namesSecond 16 = .ok (.iload_n 0, 1) := by decide +kernel
theorem dX2_namesSecond_17 : decode cX2_namesSecond 17 = .ok (.bipush 12, 2) := by decide +kernel
theorem dX2_namesSecond_19 : decode cX2_namesSecond 19 = .ok (.if_icmp .gt 7, 3) := by decide +kernel
theorem dX2_namesSecond_22 : decode cX2_namesSecond 22 = .ok (.iconst 1, 1) := by decide +kernel
theorem dX2_namesSecond_23 : decode cX2_namesSecond 23 = .ok (.goto 4, 3) := by decide +kernel
theorem dX2_namesSecond_26 : decode cX2_namesSecond 26 = .ok (.iconst 0, 1) := by decide +kernel
theorem dX2_namesSecond_27 : decode cX2_namesSecond 27 = .ok (.ireturn, 1) := by decide +kernel
theorem dX2_turned_0 : decode cX2_turned 0 = .ok (.aload_n 0, 1) := by decide +kernel
theorem dX2_turned_1 : decode cX2_turned 1 = .ok (.lload_n 1, 1) := by decide +kernel
theorem dX2_turned_2 : decode cX2_turned 2 = .ok (.invokevirtual 11, 3) := by decide +kernel
theorem dX2_turned_5 : decode cX2_turned 5 = .ok (.ifCond .eq 8, 3) := by decide +kernel
theorem dX2_turned_8 : decode cX2_turned 8 = .ok (.aload_n 3, 1) := by decide +kernel
theorem dX2_turned_9 : decode cX2_turned 9 = .ok (.getfield 21, 3) := by decide +kernel
theorem dX2_turned_12 : decode cX2_turned 12 = .ok (.lreturn, 1) := by decide +kernel
theorem dX2_turned_13 : decode cX2_turned 13 = .ok (.aload_n 0, 1) := by decide +kernel
theorem dX2_turned_14 : decode cX2_turned 14 = .ok (.lload_n 1, 1) := by decide +kernel
theorem dX2_turned_15 : decode cX2_turned 15 = .ok (.invokevirtual 40, 3) := by decide +kernel
theorem dX2_turned_18 : decode cX2_turned 18 = .ok (.istore 4, 2) := by decide +kernel
theorem dX2_turned_20 : decode cX2_turned 20 = .ok (.aload_n 0, 1) := by decide +kernel
theorem dX2_turned_21 : decode cX2_turned 21 = .ok (.lload_n 1, 1) := by decide +kernel
theorem dX2_turned_22 : decode cX2_turned 22 = .ok (.invokevirtual 74, 3) := by decide +kernel
theorem dX2_turned_25 : decode cX2_turned 25 = .ok (.ifCond .eq 14, 3) := by decide +kernel
theorem dX2_turned_28 : decode cX2_turned 28 = .ok (.aload_n 3, 1) := by decide +kernel
theorem dX2_turned_29 : decode cX2_turned 29 = .ok (.iload 4, 2) := by decide +kernel
theorem dX2_turned_31 : decode cX2_turned 31 = .ok (.aload_n 3, 1) := by decide +kernel
theorem dX2_turned_32 : decode cX2_turned 32 = .ok (.getfield 77, 3) := by decide +kernel
theorem dX2_turned_35 : decode cX2_turned 35 = .ok (.invokevirtual 47, 3) := by decide +kernel
theorem dX2_turned_38 : decode cX2_turned 38 = .ok (.lreturn, 1) := by decide +kernel
theorem dX2_turned_39 : decode cX2_turned 39 = .ok (.aload_n 3, 1) := by decide +kernel
theorem dX2_turned_40 : decode cX2_turned 40 = .ok (.iload 4, 2) := by decide +kernel
theorem dX2_turned_42 : decode cX2_turned 42 = .ok (.aload_n 0, 1) := by decide +kernel
theorem dX2_turned_43 : decode cX2_turned 43 = .ok (.lload_n 1, 1) := by decide +kernel
theorem dX2_turned_44 : decode cX2_turned 44 = .ok (.invokevirtual 80, 3) := by decide +kernel
theorem dX2_turned_47 : decode cX2_turned 47 = .ok (.aload_n 0, 1) := by decide +kernel
theorem dX2_turned_48 : decode cX2_turned 48 = .ok (.lload_n 1, 1) := by decide +kernel
theorem dX2_turned_49 : decode cX2_turned 49 = .ok (.invokevirtual 83, 3) := by decide +kernel
theorem dX2_turned_52 : decode cX2_turned 52 = .ok (.invokevirtual 70, 3) := by decide +kernel
theorem dX2_turned_55 : decode cX2_turned 55 = .ok (.lreturn, 1) := by decide +kernel
theorem dX2_toWhole_0 : decode cX2_toWhole 0 = .ok (.aload_n 0, 1) := by decide +kernel
theorem dX2_toWhole_1 : decode cX2_toWhole 1 = .ok (.lload_n 1, 1) := by decide +kernel
theorem dX2_toWhole_2 : decode cX2_toWhole 2 = .ok (.invokevirtual 83, 3) := by decide +kernel
theorem dX2_toWhole_5 : decode cX2_toWhole 5 = .ok (.istore 4, 2) := by decide +kernel
theorem dX2_toWhole_7 : decode cX2_toWhole 7 = .ok (.aload_n 0, 1) := by decide +kernel
theorem dX2_toWhole_8 : decode cX2_toWhole 8 = .ok (.lload_n 1, 1) := by decide +kernel
theorem dX2_toWhole_9 : decode cX2_toWhole 9 = .ok (.invokevirtual 74, 3) := by decide +kernel
theorem dX2_toWhole_12 : decode cX2_toWhole 12 = .ok (.ifCond .ne 8, 3) := by decide +kernel
theorem dX2_toWhole_15 : decode cX2_toWhole 15 = .ok (.iload 4, 2) := by decide +kernel
theorem dX2_toWhole_17 : decode cX2_toWhole 17 = .ok (.ifCond .lt 5, 3) := by decide +kernel
theorem dX2_toWhole_20 : decode cX2_toWhole 20 = .ok (.lload_n 1, 1) := by decide +kernel
theorem dX2_toWhole_21 : decode cX2_toWhole 21 = .ok (.lreturn, 1) := by decide +kernel
theorem dX2_toWhole_22 : decode cX2_toWhole 22 = .ok (.aload_n 0, 1) := by decide +kernel
theorem dX2_toWhole_23 : decode cX2_toWhole 23 = .ok (.lload_n 1, 1) := by decide +kernel
theorem dX2_toWhole_24 : decode cX2_toWhole 24 = .ok (.invokevirtual 40, 3) := by decide +kernel
theorem dX2_toWhole_27 : decode cX2_toWhole 27 = .ok (.istore 5, 2) := by decide +kernel
theorem dX2_toWhole_29 : decode cX2_toWhole 29 = .ok (.aload_n 0, 1) := by decide +kernel
theorem dX2_toWhole_30 : decode cX2_toWhole 30 = .ok (.lload_n 1, 1) := by decide +kernel
theorem dX2_toWhole_31 : decode cX2_toWhole 31 = .ok (.invokevirtual 80, 3) := by decide +kernel
theorem dX2_toWhole_34 : decode cX2_toWhole 34 = .ok (.lstore 6, 2) := by decide +kernel
theorem dX2_toWhole_36 : decode cX2_toWhole 36 = .ok (.iload 4, 2) := by decide +kernel
theorem dX2_toWhole_38 : decode cX2_toWhole 38 = .ok (.ineg, 1) := by decide +kernel
theorem dX2_toWhole_39 : decode cX2_toWhole 39 = .ok (.bipush 62, 2) := by decide +kernel
theorem dX2_toWhole_41 : decode cX2_toWhole 41 = .ok (.invokestatic 87, 3) := by decide +kernel
theorem dX2_toWhole_44 : decode cX2_toWhole 44 = .ok (.istore 8, 2) := by decide +kernel
theorem dX2_toWhole_46 : decode cX2_toWhole 46 = .ok (.lload 6, 2) := by decide +kernel
theorem dX2_toWhole_48 : decode cX2_toWhole 48 = .ok (.iload 8, 2) := by decide +kernel
theorem dX2_toWhole_50 : decode cX2_toWhole 50 = .ok (.lushr, 1) := by decide +kernel
theorem dX2_toWhole_51 : decode cX2_toWhole 51 = .ok (.lstore 9, 2) := by decide +kernel
theorem dX2_toWhole_53 : decode cX2_toWhole 53 = .ok (.lload 6, 2) := by decide +kernel
theorem dX2_toWhole_55 : decode cX2_toWhole 55 = .ok (.lload 9, 2) := by decide +kernel
theorem dX2_toWhole_57 : decode cX2_toWhole 57 = .ok (.iload 8, 2) := by decide +kernel
theorem dX2_toWhole_59 : decode cX2_toWhole 59 = .ok (.lshl, 1) := by decide +kernel
theorem dX2_toWhole_60 : decode cX2_toWhole 60 = .ok (.lsub, 1) := by decide +kernel
theorem dX2_toWhole_61 : decode cX2_toWhole 61 = .ok (.lstore 11, 2) := by decide +kernel
theorem dX2_toWhole_63 : decode cX2_toWhole 63 = .ok (.iload_n 3, 1) := by decide +kernel
theorem dX2_toWhole_64 : decode cX2_toWhole 64 = .ok (.iconst 5, 1) := by decide +kernel
theorem dX2_toWhole_65 : decode cX2_toWhole 65 = .ok (.if_icmp .ne 46, 3) := by decide +kernel
theorem dX2_toWhole_68 : decode cX2_toWhole 68 = .ok (.lconst 1, 1) := by decide +kernel
theorem dX2_toWhole_69 : decode cX2_toWhole 69 = .ok (.iload 8, 2) := by decide +kernel
theorem dX2_toWhole_71 : decode cX2_toWhole 71 = .ok (.iconst 1, 1) := by decide +kernel
theorem dX2_toWhole_72 : decode cX2_toWhole 72 = .ok (.isub, 1) := by decide +kernel
theorem dX2_toWhole_73 : decode cX2_toWhole 73 = .ok (.lshl, 1) := by decide +kernel
theorem dX2_toWhole_74 : decode cX2_toWhole 74 = .ok (.lstore 14, 2) := by decide +kernel
theorem dX2_toWhole_76 : decode cX2_toWhole 76 = .ok (.lload 11, 2) := by decide +kernel
theorem dX2_toWhole_78 : decode cX2_toWhole 78 = .ok (.lload 14, 2) := by decide +kernel
theorem dX2_toWhole_80 : decode cX2_toWhole 80 = .ok (.lcmp, 1) := by decide +kernel
theorem dX2_toWhole_81 : decode cX2_toWhole 81 = .ok (.ifCond .gt 20, 3) := by decide +kernel
theorem dX2_toWhole_84 : decode cX2_toWhole 84 = .ok (.lload 11, 2) := by decide +kernel
theorem dX2_toWhole_86 : decode cX2_toWhole 86 = .ok (.lload 14, 2) := by decide +kernel
theorem dX2_toWhole_88 : decode cX2_toWhole 88 = .ok (.lcmp, 1) := by decide +kernel
theorem dX2_toWhole_89 : decode cX2_toWhole 89 = .ok (.ifCond .ne 16, 3) := by decide +kernel
theorem dX2_toWhole_92 : decode cX2_toWhole 92 = .ok (.lload 9, 2) := by decide +kernel
theorem dX2_toWhole_94 : decode cX2_toWhole 94 = .ok (.lconst 1, 1) := by decide +kernel
theorem dX2_toWhole_95 : decode cX2_toWhole 95 = .ok (.land, 1) := by decide +kernel
theorem dX2_toWhole_96 : decode cX2_toWhole 96 = .ok (.lconst 1, 1) := by decide +kernel
theorem dX2_toWhole_97 : decode cX2_toWhole 97 = .ok (.lcmp, 1) := by decide +kernel
theorem dX2_toWhole_98 : decode cX2_toWhole 98 = .ok (.ifCond .ne 7, 3) := by decide +kernel
theorem dX2_toWhole_101 : decode cX2_toWhole 101 = .ok (.iconst 1, 1) := by decide +kernel
theorem dX2_toWhole_102 : decode cX2_toWhole 102 = .ok (.goto 4, 3) := by decide +kernel
theorem dX2_toWhole_105 : decode cX2_toWhole 105 = .ok (.iconst 0, 1) := by decide +kernel
theorem dX2_toWhole_106 : decode cX2_toWhole 106 = .ok (.istore 13, 2) := by decide +kernel
theorem dX2_toWhole_108 : decode cX2_toWhole 108 = .ok (.goto 32, 3) := by decide +kernel
theorem dX2_toWhole_111 : decode cX2_toWhole 111 = .ok (.lload 11, 2) := by decide +kernel
theorem dX2_toWhole_113 : decode cX2_toWhole 113 = .ok (.lconst 0, 1) := by decide +kernel
theorem dX2_toWhole_114 : decode cX2_toWhole 114 = .ok (.lcmp, 1) := by decide +kernel
theorem dX2_toWhole_115 : decode cX2_toWhole 115 = .ok (.ifCond .eq 22, 3) := by decide +kernel
theorem dX2_toWhole_118 : decode cX2_toWhole 118 = .ok (.iload 5, 2) := by decide +kernel
theorem dX2_toWhole_120 : decode cX2_toWhole 120 = .ok (.iload_n 3, 1) := by decide +kernel
theorem dX2_toWhole_121 : decode cX2_toWhole 121 = .ok (.iconst 3, 1) := by decide +kernel
theorem dX2_toWhole_122 : decode cX2_toWhole 122 = .ok (.if_icmp .ne 7, 3) := by decide +kernel
theorem dX2_toWhole_125 : decode cX2_toWhole 125 = .ok (.iconst 1, 1) := by decide +kernel
theorem dX2_toWhole_126 : decode cX2_toWhole 126 = .ok (.goto 4, 3) := by decide +kernel
theorem dX2_toWhole_129 : decode cX2_toWhole 129 = .ok (.iconst 0, 1) := by decide +kernel
theorem dX2_toWhole_130 : decode cX2_toWhole 130 = .ok (.if_icmp .ne 7, 3) := by decide +kernel
theorem dX2_toWhole_133 : decode cX2_toWhole 133 = .ok (.iconst 1, 1) := by decide +kernel
theorem dX2_toWhole_134 : decode cX2_toWhole 134 = .ok (.goto 4, 3) := by decide +kernel
theorem dX2_toWhole_137 : decode cX2_toWhole 137 = .ok (.iconst 0, 1) := by decide +kernel
theorem dX2_toWhole_138 : decode cX2_toWhole 138 = .ok (.istore 13, 2) := by decide +kernel
theorem dX2_toWhole_140 : decode cX2_toWhole 140 = .ok (.aload_n 0, 1) := by decide +kernel
theorem dX2_toWhole_141 : decode cX2_toWhole 141 = .ok (.iload 5, 2) := by decide +kernel
theorem dX2_toWhole_143 : decode cX2_toWhole 143 = .ok (.iload 13, 2) := by decide +kernel
theorem dX2_toWhole_145 : decode cX2_toWhole 145 = .ok (.ifCond .eq 10, 3) := by decide +kernel
theorem dX2_toWhole_148 : decode cX2_toWhole 148 = .ok (.lload 9, 2) := by decide +kernel
theorem dX2_toWhole_150 : decode cX2_toWhole 150 = .ok (.lconst 1, 1) := by decide +kernel
theorem dX2_toWhole_151 : decode cX2_toWhole 151 = .ok (.ladd, 1) := by decide +kernel
theorem dX2_toWhole_152 : decode cX2_toWhole 152 = .ok (.goto 5, 3) := by decide +kernel
theorem dX2_toWhole_155 : decode cX2_toWhole 155 = .ok (.lload 9, 2) := by decide +kernel
theorem dX2_toWhole_157 : decode cX2_toWhole 157 = .ok (.iconst 0, 1) := by decide +kernel
theorem dX2_toWhole_158 : decode cX2_toWhole 158 = .ok (.invokevirtual 70, 3) := by decide +kernel
theorem dX2_toWhole_161 : decode cX2_toWhole 161 = .ok (.lreturn, 1) := by decide +kernel
theorem dX2_minus_0 : decode cX2_minus 0 = .ok (.aload_n 0, 1) := by decide +kernel
theorem dX2_minus_1 : decode cX2_minus 1 = .ok (.lload_n 1, 1) := by decide +kernel
theorem dX2_minus_2 : decode cX2_minus 2 = .ok (.aload_n 0, 1) := by decide +kernel
theorem dX2_minus_3 : decode cX2_minus 3 = .ok (.lload_n 3, 1) := by decide +kernel
theorem dX2_minus_4 : decode cX2_minus 4 = .ok (.invokevirtual 67, 3) := by decide +kernel
theorem dX2_minus_7 : decode cX2_minus 7 = .ok (.invokestatic 51, 3) := by decide +kernel
theorem dX2_minus_10 : decode cX2_minus 10 = .ok (.lreturn, 1) := by decide +kernel
theorem dX2_plus_0 : decode cX2_plus 0 = .ok (.aload_n 0, 1) := by decide +kernel
theorem dX2_plus_1 : decode cX2_plus 1 = .ok (.lload_n 1, 1) := by decide +kernel
theorem dX2_plus_2 : decode cX2_plus 2 = .ok (.invokevirtual 11, 3) := by decide +kernel
theorem dX2_plus_5 : decode cX2_plus 5 = .ok (.ifCond .ne 11, 3) := by decide +kernel
theorem dX2_plus_8 : decode cX2_plus 8 = .ok (.aload_n 0, 1) := by decide +kernel
theorem dX2_plus_9 : decode cX2_plus 9 = .ok (.lload_n 3, 1) := by decide +kernel
theorem dX2_plus_10 : decode cX2_plus 10 = .ok (.invokevirtual 11, 3) := by decide +kernel
theorem dX2_plus_13 : decode cX2_plus 13 = .ok (.ifCond .eq 8, 3) := by decide +kernel
theorem dX2_plus_16 : decode cX2_plus 16 = .ok (.aload_n 0, 1) := by decide +kernel
theorem dX2_plus_17 : decode cX2_plus 17 = .ok (.getfield 21, 3) := by decide +kernel
theorem dX2_plus_20 : decode cX2_plus 20 = .ok (.lreturn, 1) := by decide +kernel
theorem dX2_plus_21 : decode cX2_plus 21 = .ok (.aload_n 0, 1) := by decide +kernel
theorem dX2_plus_22 : decode cX2_plus 22 = .ok (.lload_n 1, 1) := by decide +kernel
theorem dX2_plus_23 : decode cX2_plus 23 = .ok (.invokevirtual 74, 3) := by decide +kernel
theorem dX2_plus_26 : decode cX2_plus 26 = .ok (.ifCond .eq 26, 3) := by decide +kernel
theorem dX2_plus_29 : decode cX2_plus 29 = .ok (.aload_n 0, 1) := by decide +kernel
theorem dX2_plus_30 : decode cX2_plus 30 = .ok (.lload_n 3, 1) := by decide +kernel
theorem dX2_plus_31 : decode cX2_plus 31 = .ok (.invokevirtual 74, 3) := by decide +kernel
theorem dX2_plus_34 : decode cX2_plus 34 = .ok (.ifCond .eq 16, 3) := by decide +kernel
theorem dX2_plus_37 : decode cX2_plus 37 = .ok (.lload_n 1, 1) := by decide +kernel
theorem dX2_plus_38 : decode cX2_plus 38 = .ok (.lload_n 3, 1) := by decide +kernel
theorem dX2_plus_39 : decode cX2_plus 39 = .ok (.lcmp, 1) := by decide +kernel
theorem dX2_plus_40 : decode cX2_plus 40 = .ok (.ifCond .eq 10, 3) := by decide +kernel
theorem dX2_plus_43 : decode cX2_plus 43 = .ok (.aload_n 0, 1) := by decide +kernel
theorem dX2_plus_44 : decode cX2_plus 44 = .ok (.getfield 21, 3) := by decide +kernel
theorem dX2_plus_47 : decode cX2_plus 47 = .ok (.goto 4, 3) := by decide +kernel
theorem dX2_plus_50 : decode cX2_plus 50 = .ok (.lload_n 1, 1) := by decide +kernel
theorem dX2_plus_51 : decode cX2_plus 51 = .ok (.lreturn, 1) := by decide +kernel
theorem dX2_plus_52 : decode cX2_plus 52 = .ok (.aload_n 0, 1) := by decide +kernel
theorem dX2_plus_53 : decode cX2_plus 53 = .ok (.lload_n 3, 1) := by decide +kernel
theorem dX2_plus_54 : decode cX2_plus 54 = .ok (.invokevirtual 74, 3) := by decide +kernel
theorem dX2_plus_57 : decode cX2_plus 57 = .ok (.ifCond .eq 5, 3) := by decide +kernel
theorem dX2_plus_60 : decode cX2_plus 60 = .ok (.lload_n 3, 1) := by decide +kernel
theorem dX2_plus_61 : decode cX2_plus 61 = .ok (.lreturn, 1) := by decide +kernel
theorem dX2_plus_62 : decode cX2_plus 62 = .ok (.aload_n 0, 1) := by decide +kernel
theorem dX2_plus_63 : decode cX2_plus 63 = .ok (.lload_n 1, 1) := by decide +kernel
theorem dX2_plus_64 : decode cX2_plus 64 = .ok (.invokevirtual 25, 3) := by decide +kernel
theorem dX2_plus_67 : decode cX2_plus 67 = .ok (.aload_n 0, 1) := by decide +kernel
theorem dX2_plus_68 : decode cX2_plus 68 = .ok (.lload_n 3, 1) := by decide +kernel
theorem dX2_plus_69 : decode cX2_plus 69 = .ok (.invokevirtual 25, 3) := by decide +kernel
theorem dX2_plus_72 : decode cX2_plus 72 = .ok (.lcmp, 1) := by decide +kernel
theorem dX2_plus_73 : decode cX2_plus 73 = .ok (.ifCond .ge 7, 3) := by decide +kernel
theorem dX2_plus_76 : decode cX2_plus 76 = .ok (.iconst 1, 1) := by decide +kernel
theorem dX2_plus_77 : decode cX2_plus 77 = .ok (.goto 4, 3) := by decide +kernel
theorem dX2_plus_80 : decode cX2_plus 80 = .ok (.iconst 0, 1) := by decide +kernel
theorem dX2_plus_81 : decode cX2_plus 81 = .ok (.istore 5, 2) := by decide +kernel
theorem dX2_plus_83 : decode cX2_plus 83 = .ok (.iload 5, 2) := by decide +kernel
theorem dX2_plus_85 : decode cX2_plus 85 = .ok (.ifCond .eq 12, 3) := by decide +kernel
theorem dX2_plus_88 : decode cX2_plus 88 = .ok (.aload_n 0, 1) := by decide +kernel
theorem dX2_plus_89 : decode cX2_plus 89 = .ok (.lload_n 3, 1) := by decide +kernel
theorem dX2_plus_90 : decode cX2_plus 90 = .ok (.lload_n 1, 1) := by decide +kernel
theorem dX2_plus_91 : decode cX2_plus 91 = .ok (.invokestatic 102, 3) := by decide +kernel
theorem dX2_plus_94 : decode cX2_plus 94 = .ok (.goto 9, 3) := by decide +kernel
theorem dX2_plus_97 : decode cX2_plus 97 = .ok (.aload_n 0, 1) := by decide +kernel
theorem dX2_plus_98 : decode cX2_plus 98 = .ok (.lload_n 1, 1) := by decide +kernel
theorem dX2_plus_99 : decode cX2_plus 99 = .ok (.lload_n 3, 1) := by decide +kernel
theorem dX2_plus_100 : decode cX2_plus 100 = .ok (.invokestatic 102, 3) := by decide +kernel
theorem dX2_plus_103 : decode cX2_plus 103 = .ok (.lreturn, 1) := by decide +kernel
theorem dX2_plusLesser_0 : decode cX2_plusLesser 0 = .ok (.aload_n 0, 1) := by decide +kernel
theorem dX2_plusLesser_1 : decode cX2_plusLesser 1 = .ok (.lload_n 1, 1) := by decide +kernel
theorem dX2_plusLesser_2 : decode cX2_plusLesser 2 = .ok (.invokevirtual 83, 3) := by decide +kernel
theorem dX2_plusLesser_5 : decode cX2_plusLesser 5 = .ok (.istore 5, 2) := by decide +kernel
theorem dX2_plusLesser_7 : decode cX2_plusLesser 7 = .ok (.iload 5, 2) := by decide +kernel
theorem dX2_plusLesser_9 : decode cX2_plusLesser 9 = .ok (.aload_n 0, 1) := by decide +kernel
theorem dX2_plusLesser_10 : decode cX2_plusLesser 10 = .ok (.lload_n 3, 1) := by decide +kernel
theorem dX2_plusLesser_11 : decode cX2_plusLesser 11 = .ok (.invokevirtual 83, 3) := by decide +kernel
theorem dX2_plusLesser_14 : decode cX2_plusLesser 14 = .ok (.isub, 1) := by decide +kernel
theorem dX2_plusLesser_15 : decode cX2_plusLesser 15 = .ok (.istore 6, 2) := by decide +kernel
theorem dX2_plusLesser_17 : decode cX2_plusLesser 17 = .ok (.iload 6, 2) := by decide +kernel
theorem dX2_plusLesser_19 : decode cX2_plusLesser 19 = .ok (.bipush 9, 2) := by decide +kernel
theorem dX2_plusLesser_21 : decode cX2_plusLesser 21 = .ok (.invokestatic 87, 3) := by decide +kernel
theorem dX2_plusLesser_24 : decode cX2_plusLesser 24 = .ok (.istore 7, 2) := by decide +kernel
theorem dX2_plusLesser_26 : decode cX2_plusLesser 26 = .ok (.aload_n 0, 1) := by decide +kernel
theorem dX2_plusLesser_27 : decode cX2_plusLesser 27 = .ok (.lload_n 1, 1) := by decide +kernel
theorem dX2_plusLesser_28 : decode cX2_plusLesser 28 = .ok (.invokevirtual 80, 3) := by decide +kernel
theorem dX2_plusLesser_31 : decode cX2_plusLesser 31 = .ok (.iload 7, 2) := by decide +kernel
theorem dX2_plusLesser_33 : decode cX2_plusLesser 33 = .ok (.lshl, 1) := by decide +kernel
theorem dX2_plusLesser_34 : decode cX2_plusLesser 34 = .ok (.lstore 8, 2) := by decide +kernel
theorem dX2_plusLesser_36 : decode cX2_plusLesser 36 = .ok (.aload_n 0, 1) := by decide +kernel
theorem dX2_plusLesser_37 : decode cX2_plusLesser 37 = .ok (.lload_n 3, 1) := by decide +kernel
theorem dX2_plusLesser_38 : decode cX2_plusLesser 38 = .ok (.invokevirtual 80, 3) := by decide +kernel
theorem dX2_plusLesser_41 : decode cX2_plusLesser 41 = .ok (.iload 6, 2) := by decide +kernel
theorem dX2_plusLesser_43 : decode cX2_plusLesser 43 = .ok (.iload 7, 2) := by decide +kernel
theorem dX2_plusLesser_45 : decode cX2_plusLesser 45 = .ok (.isub, 1) := by decide +kernel
theorem dX2_plusLesser_46 : decode cX2_plusLesser 46 = .ok (.invokestatic 105, 3) := by decide +kernel
theorem dX2_plusLesser_49 : decode cX2_plusLesser 49 = .ok (.lstore 10, 2) := by decide +kernel
theorem dX2_plusLesser_51 : decode cX2_plusLesser 51 = .ok (.aload_n 0, 1) := by decide +kernel
theorem dX2_plusLesser_52 : decode cX2_plusLesser 52 = .ok (.lload_n 1, 1) := by decide +kernel
theorem dX2_plusLesser_53 : decode cX2_plusLesser 53 = .ok (.invokevirtual 40, 3) := by decide +kernel
theorem dX2_plusLesser_56 : decode cX2_plusLesser 56 = .ok (.istore 12, 2) := by decide +kernel
theorem dX2_plusLesser_58 : decode cX2_plusLesser 58 = .ok (.iload 12, 2) := by decide +kernel
theorem dX2_plusLesser_60 : decode cX2_plusLesser 60 = .ok (.aload_n 0, 1) := by decide +kernel
theorem dX2_plusLesser_61 : decode cX2_plusLesser 61 = .ok (.lload_n 3, 1) := by decide +kernel
theorem dX2_plusLesser_62 : decode cX2_plusLesser 62 = .ok (.invokevirtual 40, 3) := by decide +kernel
theorem dX2_plusLesser_65 : decode cX2_plusLesser 65 = .ok (.if_icmp .ne 7, 3) := by decide +kernel
theorem dX2_plusLesser_68 : decode cX2_plusLesser 68 = .ok (.iconst 1, 1) := by decide +kernel
theorem dX2_plusLesser_69 : decode cX2_plusLesser 69 = .ok (.goto 4, 3) := by decide +kernel
theorem dX2_plusLesser_72 : decode cX2_plusLesser 72 = .ok (.iconst 0, 1) := by decide +kernel
theorem dX2_plusLesser_73 : decode cX2_plusLesser 73 = .ok (.istore 13, 2) := by decide +kernel
theorem dX2_plusLesser_75 : decode cX2_plusLesser 75 = .ok (.iload 13, 2) := by decide +kernel
theorem dX2_plusLesser_77 : decode cX2_plusLesser 77 = .ok (.ifCond .eq 11, 3) := by decide +kernel
theorem dX2_plusLesser_80 : decode cX2_plusLesser 80 = .ok (.lload 8, 2) := by decide +kernel
theorem dX2_plusLesser_82 : decode cX2_plusLesser 82 = .ok (.lload 10, 2) := by decide +kernel
theorem dX2_plusLesser_84 : decode cX2_plusLesser 84 = .ok (.ladd, 1) := by decide +kernel
theorem dX2_plusLesser_85 : decode cX2_plusLesser 85 = .ok (.goto 8, 3) := by decide +kernel
theorem dX2_plusLesser_88 : decode cX2_plusLesser 88 = .ok (.lload 8, 2) := by decide +kernel
theorem dX2_plusLesser_90 : decode cX2_plusLesser 90 = .ok (.lload 10, 2) := by decide +kernel
theorem dX2_plusLesser_92 : decode cX2_plusLesser 92 = .ok (.lsub, 1) := by decide +kernel
theorem dX2_plusLesser_93 : decode cX2_plusLesser 93 = .ok (.lstore 14, 2) := by decide +kernel
theorem dX2_plusLesser_95 : decode cX2_plusLesser 95 = .ok (.lload 14, 2) := by decide +kernel
theorem dX2_plusLesser_97 : decode cX2_plusLesser 97 = .ok (.lconst 0, 1) := by decide +kernel
theorem dX2_plusLesser_98 : decode cX2_plusLesser 98 = .ok (.lcmp, 1) := by decide +kernel
theorem dX2_plusLesser_99 : decode cX2_plusLesser 99 = .ok (.ifCond .ne 24, 3) := by decide +kernel
theorem dX2_plusLesser_102 : decode cX2_plusLesser 102 = .ok (.aload_n 0, 1) := by decide +kernel
theorem dX2_plusLesser_103 : decode cX2_plusLesser 103 = .ok (.iload 12, 2) := by decide +kernel
theorem dX2_plusLesser_105 : decode cX2_plusLesser 105 = .ok (.ifCond .eq 12, 3) := by decide +kernel
theorem dX2_plusLesser_108 : decode cX2_plusLesser 108 = .ok (.iload 13, 2) := by decide +kernel
theorem dX2_plusLesser_110 : decode cX2_plusLesser 110 = .ok (.ifCond .eq 7, 3) := by decide +kernel
theorem dX2_plusLesser_113 : decode cX2_plusLesser 113 = .ok (.iconst 1, 1) := by decide +kernel
theorem dX2_plusLesser_114 : decode cX2_plusLesser 114 = .ok (.goto 4, 3) := by decide +kernel
theorem dX2_plusLesser_117 : decode cX2_plusLesser 117 = .ok (.iconst 0, 1) := by decide +kernel
theorem dX2_plusLesser_118 : decode cX2_plusLesser 118 = .ok (.lconst 0, 1) := by decide +kernel
theorem dX2_plusLesser_119 : decode cX2_plusLesser 119 = .ok (.invokevirtual 47, 3) := by decide +kernel
theorem dX2_plusLesser_122 : decode cX2_plusLesser 122 = .ok (.lreturn, 1) := by decide +kernel
theorem dX2_plusLesser_123 : decode cX2_plusLesser 123 = .ok (.aload_n 0, 1) := by decide +kernel
theorem dX2_plusLesser_124 : decode cX2_plusLesser 124 = .ok (.iload 12, 2) := by decide +kernel
theorem dX2_plusLesser_126 : decode cX2_plusLesser 126 = .ok (.lload 14, 2) := by decide +kernel
theorem dX2_plusLesser_128 : decode cX2_plusLesser 128 = .ok (.iload 5, 2) := by decide +kernel
theorem dX2_plusLesser_130 : decode cX2_plusLesser 130 = .ok (.iload 7, 2) := by decide +kernel
theorem dX2_plusLesser_132 : decode cX2_plusLesser 132 = .ok (.isub, 1) := by decide +kernel
theorem dX2_plusLesser_133 : decode cX2_plusLesser 133 = .ok (.invokevirtual 70, 3) := by decide +kernel
theorem dX2_plusLesser_136 : decode cX2_plusLesser 136 = .ok (.lreturn, 1) := by decide +kernel
theorem dX2_shiftedRight_0 : decode cX2_shiftedRight 0 = .ok (.iload_n 2, 1) := by decide +kernel
theorem dX2_shiftedRight_1 : decode cX2_shiftedRight 1 = .ok (.bipush 62, 2) := by decide +kernel
theorem dX2_shiftedRight_3 : decode cX2_shiftedRight 3 = .ok (.if_icmp .le 15, 3) := by decide +kernel
theorem dX2_shiftedRight_6 : decode cX2_shiftedRight 6 = .ok (.lload_n 0, 1) := by decide +kernel
theorem dX2_shiftedRight_7 : decode cX2_shiftedRight 7 = .ok (.lconst 0, 1) := by decide +kernel
theorem dX2_shiftedRight_8 : decode cX2_shiftedRight 8 = .ok (.lcmp, 1) := by decide +kernel
theorem dX2_shiftedRight_9 : decode cX2_shiftedRight 9 = .ok (.ifCond .ne 7, 3) := by decide +kernel
theorem dX2_shiftedRight_12 : decode cX2_shiftedRight 12 = .ok (.lconst 0, 1) := by decide +kernel
theorem dX2_shiftedRight_13 : decode cX2_shiftedRight 13 = .ok (.goto 4, 3) := by decide +kernel
theorem dX2_shiftedRight_16 : decode cX2_shiftedRight 16 = .ok (.lconst 1, 1) := by decide +kernel
theorem dX2_shiftedRight_17 : decode cX2_shiftedRight 17 = .ok (.lreturn, 1) := by decide +kernel
theorem dX2_shiftedRight_18 : decode cX2_shiftedRight 18 = .ok (.lload_n 0, 1) := by decide +kernel
theorem dX2_shiftedRight_19 : decode cX2_shiftedRight 19 = .ok (.iload_n 2, 1) := by decide +kernel
theorem dX2_shiftedRight_20 : decode cX2_shiftedRight 20 = .ok (.lushr, 1) := by decide +kernel
theorem dX2_shiftedRight_21 : decode cX2_shiftedRight 21 = .ok (.lstore_n 3, 1) := by decide +kernel
theorem dX2_shiftedRight_22 : decode cX2_shiftedRight 22 = .ok (.lload_n 3, 1) := by decide +kernel
theorem dX2_shiftedRight_23 : decode cX2_shiftedRight 23 = .ok (.iload_n 2, 1) := by decide +kernel
theorem dX2_shiftedRight_24 : decode cX2_shiftedRight 24 = .ok (.lshl, 1) := by decide +kernel
