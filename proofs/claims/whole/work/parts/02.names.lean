theorem dX0_init_0 : decode cX0_init 0 = .ok (.aload_n 0, 1) := by decide +kernel
theorem dX0_init_1 : decode cX0_init 1 = .ok (.invokespecial 3, 3) := by decide +kernel
theorem dX0_init_4 : decode cX0_init 4 = .ok (.aload_n 0, 1) := by decide +kernel
theorem dX0_init_5 : decode cX0_init 5 = .ok (.aload_n 1, 1) := by decide +kernel
theorem dX0_init_6 : decode cX0_init 6 = .ok (.putfield 9, 3) := by decide +kernel
theorem dX0_init_9 : decode cX0_init 9 = .ok (.aload_n 0, 1) := by decide +kernel
theorem dX0_init_10 : decode cX0_init 10 = .ok (.lload_n 2, 1) := by decide +kernel
theorem dX0_init_11 : decode cX0_init 11 = .ok (.putfield 13, 3) := by decide +kernel
theorem dX0_init_14 : decode cX0_init 14 = .ok (.aload_n 0, 1) := by decide +kernel
theorem dX0_init_15 : decode cX0_init 15 = .ok (.lload 4, 2) := by decide +kernel
theorem dX0_init_17 : decode cX0_init 17 = .ok (.putfield 17, 3) := by decide +kernel
theorem dX0_init_20 : decode cX0_init 20 = .ok (.return_, 1) := by decide +kernel
theorem dX0_stands_0 : decode cX0_stands 0 = .ok (.aload_n 0, 1) := by decide +kernel
theorem dX0_stands_1 : decode cX0_stands 1 = .ok (.getfield 9, 3) := by decide +kernel
theorem dX0_stands_4 : decode cX0_stands 4 = .ok (.aload_n 0, 1) := by decide +kernel
theorem dX0_stands_5 : decode cX0_stands 5 = .ok (.getfield 13, 3) := by decide +kernel
theorem dX0_stands_8 : decode cX0_stands 8 = .ok (.aload_n 0, 1) := by decide +kernel
theorem dX0_stands_9 : decode cX0_stands 9 = .ok (.getfield 17, 3) := by decide +kernel
theorem dX0_stands_12 : decode cX0_stands 12 = .ok (.invokevirtual 20, 3) := by decide +kernel
theorem dX0_stands_15 : decode cX0_stands 15 = .ok (.ireturn, 1) := by decide +kernel
theorem dX0_hasZero_0 : decode cX0_hasZero 0 = .ok (.aload_n 0, 1) := by decide +kernel
theorem dX0_hasZero_1 : decode cX0_hasZero 1 = .ok (.getfield 9, 3) := by decide +kernel
theorem dX0_hasZero_4 : decode cX0_hasZero 4 = .ok (.aload_n 0, 1) := by decide +kernel
theorem dX0_hasZero_5 : decode cX0_hasZero 5 = .ok (.getfield 13, 3) := by decide +kernel
theorem dX0_hasZero_8 : decode cX0_hasZero 8 = .ok (.lconst 0, 1) := by decide +kernel
theorem dX0_hasZero_9 : decode cX0_hasZero 9 = .ok (.invokevirtual 20, 3) := by decide +kernel
theorem dX0_hasZero_12 : decode cX0_hasZero 12 = .ok (.ifCond .eq 22, 3) := by decide +kernel
theorem dX0_hasZero_15 : decode cX0_hasZero 15 = .ok (.aload_n 0, 1) := by decide +kernel
theorem dX0_hasZero_16 : decode cX0_hasZero 16 = .ok (.getfield 9, 3) := by decide +kernel
theorem dX0_hasZero_19 : decode cX0_hasZero 19 = .ok (.lconst 0, 1) := by decide +kernel
theorem dX0_hasZero_20 : decode cX0_hasZero 20 = .ok (.aload_n 0, 1) := by decide +kernel
theorem dX0_hasZero_21 : decode cX0_hasZero 21 = .ok (.getfield 17, 3) := by decide +kernel
theorem dX0_hasZero_24 : decode cX0_hasZero 24 = .ok (.invokevirtual 20, 3) := by decide +kernel
theorem dX0_hasZero_27 : decode cX0_hasZero 27 = .ok (.ifCond .eq 7, 3) := by decide +kernel
theorem dX0_hasZero_30 : decode cX0_hasZero 30 = .ok (.iconst 1, 1) := by decide +kernel
theorem dX0_hasZero_31 : decode cX0_hasZero 31 = .ok (.goto 4, 3) := by decide +kernel
theorem dX0_hasZero_34 : decode cX0_hasZero 34 = .ok (.iconst 0, 1) := by decide +kernel
theorem dX0_hasZero_35 : decode cX0_hasZero 35 = .ok (.ireturn, 1) := by decide +kernel
theorem dX0_everything_0 : decode cX0_everything 0 = .ok (.new 1, 3) := by decide +kernel
theorem dX0_everything_3 : decode cX0_everything 3 = .ok (.dup, 1) := by decide +kernel
theorem dX0_everything_4 : decode cX0_everything 4 = .ok (.aload_n 0, 1) := by decide +kernel
theorem dX0_everything_5 : decode cX0_everything 5 = .ok (.getfield 9, 3) := by decide +kernel
theorem dX0_everything_8 : decode cX0_everything 8 = .ok (.aload_n 0, 1) := by decide +kernel
theorem dX0_everything_9 : decode cX0_everything 9 = .ok (.getfield 9, 3) := by decide +kernel
theorem dX0_everything_12 : decode cX0_everything 12 = .ok (.iconst 1, 1) := by decide +kernel
theorem dX0_everything_13 : decode cX0_everything 13 = .ok (.aload_n 0, 1) := by decide +kernel
theorem dX0_everything_14 : decode cX0_everything 14 = .ok (.getfield 9, 3) := by decide +kernel
theorem dX0_everything_17 : decode cX0_everything 17 = .ok (.getfield 26, 3) := by decide +kernel
theorem dX0_everything_20 : decode cX0_everything 20 = .ok (.invokevirtual 29, 3) := by decide +kernel
theorem dX0_everything_23 : decode cX0_everything 23 = .ok (.aload_n 0, 1) := by decide +kernel
theorem dX0_everything_24 : decode cX0_everything 24 = .ok (.getfield 9, 3) := by decide +kernel
theorem dX0_everything_27 : decode cX0_everything 27 = .ok (.getfield 26, 3) := by decide +kernel
theorem dX0_everything_30 : decode cX0_everything 30 = .ok (.invokespecial 33, 3) := by decide +kernel
theorem dX0_everything_33 : decode cX0_everything 33 = .ok (.areturn, 1) := by decide +kernel
theorem dX0_nothing_0 : decode cX0_nothing 0 = .ok (.new 1, 3) := by decide +kernel
theorem dX0_nothing_3 : decode cX0_nothing 3 = .ok (.dup, 1) := by decide +kernel
theorem dX0_nothing_4 : decode cX0_nothing 4 = .ok (.aload_n 0, 1) := by decide +kernel
theorem dX0_nothing_5 : decode cX0_nothing 5 = .ok (.getfield 9, 3) := by decide +kernel
theorem dX0_nothing_8 : decode cX0_nothing 8 = .ok (.aload_n 0, 1) := by decide +kernel
theorem dX0_nothing_9 : decode cX0_nothing 9 = .ok (.getfield 9, 3) := by decide +kernel
theorem dX0_nothing_12 : decode cX0_nothing 12 = .ok (.getfield 36, 3) := by decide +kernel
theorem dX0_nothing_15 : decode cX0_nothing 15 = .ok (.aload_n 0, 1) := by decide +kernel
theorem dX0_nothing_16 : decode cX0_nothing 16 = .ok (.getfield 9, 3) := by decide +kernel
theorem dX0_nothing_19 : decode cX0_nothing 19 = .ok (.getfield 36, 3) := by decide +kernel
theorem dX0_nothing_22 : decode cX0_nothing 22 = .ok (.invokespecial 33, 3) := by decide +kernel
theorem dX0_nothing_25 : decode cX0_nothing 25 = .ok (.areturn, 1) := by decide +kernel
theorem dX0_acted_0 : decode cX0_acted 0 = .ok (.iload_n 1, 1) := by decide +kernel
theorem dX0_acted_1 : decode cX0_acted 1 = .ok (.tableswitch 253 0 4 #[35, 70, 105, 158, 211], 35) := by decide +kernel
theorem dX0_acted_36 : decode cX0_acted 36 = .ok (.aload_n 0, 1) := by decide +kernel
theorem dX0_acted_37 : decode cX0_acted 37 = .ok (.aload_n 0, 1) := by decide +kernel
theorem dX0_acted_38 : decode cX0_acted 38 = .ok (.getfield 9, 3) := by decide +kernel
theorem dX0_acted_41 : decode cX0_acted 41 = .ok (.aload_n 0, 1) := by decide +kernel
theorem dX0_acted_42 : decode cX0_acted 42 = .ok (.getfield 13, 3) := by decide +kernel
theorem dX0_acted_45 : decode cX0_acted 45 = .ok (.aload_n 2, 1) := by decide +kernel
theorem dX0_acted_46 : decode cX0_acted 46 = .ok (.getfield 13, 3) := by decide +kernel
theorem dX0_acted_49 : decode cX0_acted 49 = .ok (.invokestatic 39, 3) := by decide +kernel
theorem dX0_acted_52 : decode cX0_acted 52 = .ok (.aload_n 0, 1) := by decide +kernel
theorem dX0_acted_53 : decode cX0_acted 53 = .ok (.getfield 9, 3) := by decide +kernel
theorem dX0_acted_56 : decode cX0_acted 56 = .ok (.aload_n 0, 1) := by decide +kernel
theorem dX0_acted_57 : decode cX0_acted 57 = .ok (.getfield 17, 3) := by decide +kernel
theorem dX0_acted_60 : decode cX0_acted 60 = .ok (.aload_n 2, 1) := by decide +kernel
theorem dX0_acted_61 : decode cX0_acted 61 = .ok (.getfield 17, 3) := by decide +kernel
theorem dX0_acted_64 : decode cX0_acted 64 = .ok (.invokestatic 39, 3) := by decide +kernel
theorem dX0_acted_67 : decode cX0_acted 67 = .ok (.invokevirtual 45, 3) := by decide +kernel
theorem dX0_acted_70 : decode cX0_acted 70 = .ok (.areturn, 1) := by decide +kernel
theorem dX0_acted_71 : decode cX0_acted 71 = .ok (.aload_n 0, 1) := by decide +kernel
theorem dX0_acted_72 : decode cX0_acted 72 = .ok (.aload_n 0, 1) := by decide +kernel
theorem dX0_acted_73 : decode cX0_acted 73 = .ok (.getfield 9, 3) := by decide +kernel
theorem dX0_acted_76 : decode cX0_acted 76 = .ok (.aload_n 0, 1) := by decide +kernel
theorem dX0_acted_77 : decode cX0_acted 77 = .ok (.getfield 13, 3) := by decide +kernel
theorem dX0_acted_80 : decode cX0_acted 80 = .ok (.aload_n 2, 1) := by decide +kernel
theorem dX0_acted_81 : decode cX0_acted 81 = .ok (.getfield 17, 3) := by decide +kernel
theorem dX0_acted_84 : decode cX0_acted 84 = .ok (.invokestatic 49, 3) := by decide +kernel
theorem dX0_acted_87 : decode cX0_acted 87 = .ok (.aload_n 0, 1) := by decide +kernel
theorem dX0_acted_88 : decode cX0_acted 88 = .ok (.getfield 9, 3) := by decide +kernel
theorem dX0_acted_91 : decode cX0_acted 91 = .ok (.aload_n 0, 1) := by decide +kernel
theorem dX0_acted_92 : decode cX0_acted 92 = .ok (.getfield 17, 3) := by decide +kernel
theorem dX0_acted_95 : decode cX0_acted 95 = .ok (.aload_n 2, 1) := by decide +kernel
theorem dX0_acted_96 : decode cX0_acted 96 = .ok (.getfield 13, 3) := by decide +kernel
theorem dX0_acted_99 : decode cX0_acted 99 = .ok (.invokestatic 49, 3) := by decide +kernel
theorem dX0_acted_102 : decode cX0_acted 102 = .ok (.invokevirtual 45, 3) := by decide +kernel
theorem dX0_acted_105 : decode cX0_acted 105 = .ok (.areturn, 1) := by decide +kernel
theorem dX0_acted_106 : decode cX0_acted 106 = .ok (.aload_n 0, 1) := by decide +kernel
theorem dX0_acted_107 : decode cX0_acted 107 = .ok (.aload_n 0, 1) := by decide +kernel
theorem dX0_acted_108 : decode cX0_acted 108 = .ok (.aload_n 0, 1) := by decide +kernel
theorem dX0_acted_109 : decode cX0_acted 109 = .ok (.getfield 13, 3) := by decide +kernel
theorem dX0_acted_112 : decode cX0_acted 112 = .ok (.aload_n 2, 1) := by decide +kernel
theorem dX0_acted_113 : decode cX0_acted 113 = .ok (.getfield 13, 3) := by decide +kernel
theorem dX0_acted_116 : decode cX0_acted 116 = .ok (.invokevirtual 52, 3) := by decide +kernel
theorem dX0_acted_119 : decode cX0_acted 119 = .ok (.aload_n 0, 1) := by decide +kernel
theorem dX0_acted_120 : decode cX0_acted 120 = .ok (.aload_n 0, 1) := by decide +kernel
theorem dX0_acted_121 : decode cX0_acted 121 = .ok (.getfield 13, 3) := by decide +kernel
theorem dX0_acted_124 : decode cX0_acted 124 = .ok (.aload_n 2, 1) := by decide +kernel
theorem dX0_acted_125 : decode cX0_acted 125 = .ok (.getfield 17, 3) := by decide +kernel
theorem dX0_acted_128 : decode cX0_acted 128 = .ok (.invokevirtual 52, 3) := by decide +kernel
theorem dX0_acted_131 : decode cX0_acted 131 = .ok (.aload_n 0, 1) := by decide +kernel
theorem dX0_acted_132 : decode cX0_acted 132 = .ok (.aload_n 0, 1) := by decide +kernel
theorem dX0_acted_133 : decode cX0_acted 133 = .ok (.getfield 17, 3) := by decide +kernel
theorem dX0_acted_136 : decode cX0_acted 136 = .ok (.aload_n 2, 1) := by decide +kernel
theorem dX0_acted_137 : decode cX0_acted 137 = .ok (.getfield 13, 3) := by decide +kernel
theorem dX0_acted_140 : decode cX0_acted 140 = .ok (.invokevirtual 52, 3) := by decide +kernel
theorem dX0_acted_143 : decode cX0_acted 143 = .ok (.aload_n 0, 1) := by decide +kernel
theorem dX0_acted_144 : decode cX0_acted 144 = .ok (.aload_n 0, 1) := by decide +kernel
theorem dX0_acted_145 : decode cX0_acted 145 = .ok (.getfield 17, 3) := by decide +kernel
theorem dX0_acted_148 : decode cX0_acted 148 = .ok (.aload_n 2, 1) := by decide +kernel
theorem dX0_acted_149 : decode cX0_acted 149 = .ok (.getfield 17, 3) := by decide +kernel
theorem dX0_acted_152 : decode cX0_acted 152 = .ok (.invokevirtual 52, 3) := by decide +kernel
theorem dX0_acted_155 : decode cX0_acted 155 = .ok (.invokevirtual 56, 3) := by decide +kernel
theorem dX0_acted_158 : decode cX0_acted 158 = .ok (.areturn, 1) := by decide +kernel
theorem dX0_acted_159 : decode cX0_acted 159 = .ok (.aload_n 0, 1) := by decide +kernel
theorem dX0_acted_160 : decode cX0_acted 160 = .ok (.aload_n 0, 1) := by decide +kernel
theorem dX0_acted_161 : decode cX0_acted 161 = .ok (.aload_n 0, 1) := by decide +kernel
theorem dX0_acted_162 : decode cX0_acted 162 = .ok (.getfield 13, 3) := by decide +kernel
theorem dX0_acted_165 : decode cX0_acted 165 = .ok (.aload_n 2, 1) := by decide +kernel
theorem dX0_acted_166 : decode cX0_acted 166 = .ok (.getfield 13, 3) := by decide +kernel
theorem dX0_acted_169 : decode cX0_acted 169 = .ok (.invokevirtual 60, 3) := by decide +kernel
theorem dX0_acted_172 : decode cX0_acted 172 = .ok (.aload_n 0, 1) := by decide +kernel
theorem dX0_acted_173 : decode cX0_acted 173 = .ok (.aload_n 0, 1) := by decide +kernel
theorem dX0_acted_174 : decode cX0_acted 174 = .ok (.getfield 13, 3) := by decide +kernel
theorem dX0_acted_177 : decode cX0_acted 177 = .ok (.aload_n 2, 1) := by decide +kernel
theorem dX0_acted_178 : decode cX0_acted 178 = .ok (.getfield 17, 3) := by decide +kernel
theorem dX0_acted_181 : decode cX0_acted 181 = .ok (.invokevirtual 60, 3) := by decide +kernel
theorem dX0_acted_184 : decode cX0_acted 184 = .ok (.aload_n 0, 1) := by decide +kernel
theorem dX0_acted_185 : decode cX0_acted 185 = .ok (.aload_n 0, 1) := by decide +kernel
theorem dX0_acted_186 : decode cX0_acted 186 = .ok (.getfield 17, 3) := by decide +kernel
theorem dX0_acted_189 : decode cX0_acted 189 = .ok (.aload_n 2, 1) := by decide +kernel
theorem dX0_acted_190 : decode cX0_acted 190 = .ok (.getfield 13, 3) := by decide +kernel
theorem dX0_acted_193 : decode cX0_acted 193 = .ok (.invokevirtual 60, 3) := by decide +kernel
theorem dX0_acted_196 : decode cX0_acted 196 = .ok (.aload_n 0, 1) := by decide +kernel
theorem dX0_acted_197 : decode cX0_acted 197 = .ok (.aload_n 0, 1) := by decide +kernel
theorem dX0_acted_198 : decode cX0_acted 198 = .ok (.getfield 17, 3) := by decide +kernel
theorem dX0_acted_201 : decode cX0_acted 201 = .ok (.aload_n 2, 1) := by decide +kernel
theorem dX0_acted_202 : decode cX0_acted 202 = .ok (.getfield 17, 3) := by decide +kernel
theorem dX0_acted_205 : decode cX0_acted 205 = .ok (.invokevirtual 60, 3) := by decide +kernel
theorem dX0_acted_208 : decode cX0_acted 208 = .ok (.invokevirtual 56, 3) := by decide +kernel
theorem dX0_acted_211 : decode cX0_acted 211 = .ok (.areturn, 1) := by decide +kernel
theorem dX0_acted_212 : decode cX0_acted 212 = .ok (.new 1, 3) := by decide +kernel
theorem dX0_acted_215 : decode cX0_acted 215 = .ok (.dup, 1) := by decide +kernel
theorem dX0_acted_216 : decode cX0_acted 216 = .ok (.aload_n 0, 1) := by decide +kernel
theorem dX0_acted_217 : decode cX0_acted 217 = .ok (.getfield 9, 3) := by decide +kernel
theorem dX0_acted_220 : decode cX0_acted 220 = .ok (.aload_n 0, 1) := by decide +kernel
theorem dX0_acted_221 : decode cX0_acted 221 = .ok (.getfield 9, 3) := by decide +kernel
theorem dX0_acted_224 : decode cX0_acted 224 = .ok (.aload_n 0, 1) := by decide +kernel
theorem dX0_acted_225 : decode cX0_acted 225 = .ok (.getfield 13, 3) := by decide +kernel
theorem dX0_acted_228 : decode cX0_acted 228 = .ok (.aload_n 2, 1) := by decide +kernel
theorem dX0_acted_229 : decode cX0_acted 229 = .ok (.getfield 13, 3) := by decide +kernel
theorem dX0_acted_232 : decode cX0_acted 232 = .ok (.invokevirtual 63, 3) := by decide +kernel
theorem dX0_acted_235 : decode cX0_acted 235 = .ok (.aload_n 0, 1) := by decide +kernel
theorem dX0_acted_236 : decode cX0_acted 236 = .ok (.getfield 9, 3) := by decide +kernel
theorem dX0_acted_239 : decode cX0_acted 239 = .ok (.aload_n 0, 1) := by decide +kernel
theorem dX0_acted_240 : decode cX0_acted 240 = .ok (.getfield 17, 3) := by decide +kernel
theorem dX0_acted_243 : decode cX0_acted 243 = .ok (.aload_n 2, 1) := by decide +kernel
theorem dX0_acted_244 : decode cX0_acted 244 = .ok (.getfield 17, 3) := by decide +kernel
theorem dX0_acted_247 : decode cX0_acted 247 = .ok (.invokevirtual 66, 3) := by decide +kernel
theorem dX0_acted_250 : decode cX0_acted 250 = .ok (.invokespecial 33, 3) := by decide +kernel
theorem dX0_acted_253 : decode cX0_acted 253 = .ok (.areturn, 1) := by decide +kernel
theorem dX0_acted_254 : decode cX0_acted 254 = .ok (.new 1, 3) := by decide +kernel
theorem dX0_acted_257 : decode cX0_acted 257 = .ok (.dup, 1) := by decide +kernel
theorem dX0_acted_258 : decode cX0_acted 258 = .ok (.aload_n 0, 1) := by decide +kernel
theorem dX0_acted_259 : decode cX0_acted 259 = .ok (.getfield 9, 3) := by decide +kernel
theorem dX0_acted_262 : decode cX0_acted 262 = .ok (.aload_n 0, 1) := by decide +kernel
theorem dX0_acted_263 : decode cX0_acted 263 = .ok (.getfield 9, 3) := by decide +kernel
theorem dX0_acted_266 : decode cX0_acted 266 = .ok (.aload_n 0, 1) := by decide +kernel
theorem dX0_acted_267 : decode cX0_acted 267 = .ok (.getfield 13, 3) := by decide +kernel
theorem dX0_acted_270 : decode cX0_acted 270 = .ok (.aload_n 2, 1) := by decide +kernel
theorem dX0_acted_271 : decode cX0_acted 271 = .ok (.getfield 13, 3) := by decide +kernel
theorem dX0_acted_274 : decode cX0_acted 274 = .ok (.invokevirtual 66, 3) := by decide +kernel
theorem dX0_acted_277 : decode cX0_acted 277 = .ok (.aload_n 0, 1) := by decide +kernel
theorem dX0_acted_278 : decode cX0_acted 278 = .ok (.getfield 9, 3) := by decide +kernel
theorem dX0_acted_281 : decode cX0_acted 281 = .ok (.aload_n 0, 1) := by decide +kernel
theorem dX0_acted_282 : decode cX0_acted 282 = .ok (.getfield 17, 3) := by decide +kernel
theorem dX0_acted_285 : decode cX0_acted 285 = .ok (.aload_n 2, 1) := by decide +kernel
theorem dX0_acted_286 : decode cX0_acted 286 = .ok (.getfield 17, 3) := by decide +kernel
theorem dX0_acted_289 : decode cX0_acted 289 = .ok (.invokevirtual 63, 3) := by decide +kernel
theorem dX0_acted_292 : decode cX0_acted 292 = .ok (.invokespecial 33, 3) := by decide +kernel
theorem dX0_acted_295 : decode cX0_acted 295 = .ok (.areturn, 1) := by decide +kernel
theorem dX0_product_0 : decode cX0_product 0 = .ok (.aload_n 0, 1) := by decide +kernel
theorem dX0_product_1 : decode cX0_product 1 = .ok (.aload_n 0, 1) := by decide +kernel
theorem dX0_product_2 : decode cX0_product 2 = .ok (.getfield 9, 3) := by decide +kernel
theorem dX0_product_5 : decode cX0_product 5 = .ok (.lload_n 1, 1) := by decide +kernel
theorem dX0_product_6 : decode cX0_product 6 = .ok (.lload_n 3, 1) := by decide +kernel
theorem dX0_product_7 : decode cX0_product 7 = .ok (.invokestatic 69, 3) := by decide +kernel
theorem dX0_product_10 : decode cX0_product 10 = .ok (.invokevirtual 72, 3) := by decide +kernel
theorem dX0_product_13 : decode cX0_product 13 = .ok (.lreturn, 1) := by decide +kernel
theorem dX0_quotient_0 : decode cX0_quotient 0 = .ok (.aload_n 0, 1) := by decide +kernel
theorem dX0_quotient_1 : decode cX0_quotient 1 = .ok (.aload_n 0, 1) := by decide +kernel
theorem dX0_quotient_2 : decode cX0_quotient 2 = .ok (.getfield 9, 3) := by decide +kernel
theorem dX0_quotient_5 : decode cX0_quotient 5 = .ok (.lload_n 1, 1) := by decide +kernel
theorem dX0_quotient_6 : decode cX0_quotient 6 = .ok (.lload_n 3, 1) := by decide +kernel
theorem dX0_quotient_7 : decode cX0_quotient 7 = .ok (.invokestatic 76, 3) := by decide +kernel
theorem dX0_quotient_10 : decode cX0_quotient 10 = .ok (.invokevirtual 72, 3) := by decide +kernel
theorem dX0_quotient_13 : decode cX0_quotient 13 = .ok (.lreturn, 1) := by decide +kernel
theorem dX0_zeroIfNan_0 : decode cX0_zeroIfNan 0 = .ok (.aload_n 0, 1) := by decide +kernel
theorem dX0_zeroIfNan_1 : decode cX0_zeroIfNan 1 = .ok (.getfield 9, 3) := by decide +kernel
theorem dX0_zeroIfNan_4 : decode cX0_zeroIfNan 4 = .ok (.lload_n 1, 1) := by decide +kernel
theorem dX0_zeroIfNan_5 : decode cX0_zeroIfNan 5 = .ok (.invokevirtual 79, 3) := by decide +kernel
theorem dX0_zeroIfNan_8 : decode cX0_zeroIfNan 8 = .ok (.ifCond .eq 7, 3) := by decide +kernel
theorem dX0_zeroIfNan_11 : decode cX0_zeroIfNan 11 = .ok (.lconst 0, 1) := by decide +kernel
theorem dX0_zeroIfNan_12 : decode cX0_zeroIfNan 12 = .ok (.goto 4, 3) := by decide +kernel
theorem dX0_zeroIfNan_15 : decode cX0_zeroIfNan 15 = .ok (.lload_n 1, 1) := by decide +kernel
theorem dX0_zeroIfNan_16 : decode cX0_zeroIfNan 16 = .ok (.lreturn, 1) := by decide +kernel
theorem dX0_ofFour_0 : decode cX0_ofFour 0 = .ok (.aload_n 0, 1) := by decide +kernel
theorem dX0_ofFour_1 : decode cX0_ofFour 1 = .ok (.aload_n 0, 1) := by decide +kernel
theorem dX0_ofFour_2 : decode cX0_ofFour 2 = .ok (.getfield 9, 3) := by decide +kernel
theorem dX0_ofFour_5 : decode cX0_ofFour 5 = .ok (.aload_n 0, 1) := by decide +kernel
theorem dX0_ofFour_6 : decode cX0_ofFour 6 = .ok (.getfield 9, 3) := by decide +kernel
theorem dX0_ofFour_9 : decode cX0_ofFour 9 = .ok (.lload_n 1, 1) := by decide +kernel
theorem dX0_ofFour_10 : decode cX0_ofFour 10 = .ok (.lload_n 3, 1) := by decide +kernel
theorem dX0_ofFour_11 : decode cX0_ofFour 11 = .ok (.invokevirtual 63, 3) := by decide +kernel
theorem dX0_ofFour_14 : decode cX0_ofFour 14 = .ok (.aload_n 0, 1) := by decide +kernel
theorem dX0_ofFour_15 : decode cX0_ofFour 15 = .ok (.getfield 9, 3) := by decide +kernel
theorem dX0_ofFour_18 : decode cX0_ofFour 18 = .ok (.lload 5, 2) := by decide +kernel
theorem dX0_ofFour_20 : decode cX0_ofFour 20 = .ok (.lload 7, 2) := by decide +kernel
theorem dX0_ofFour_22 : decode cX0_ofFour 22 = .ok (.invokevirtual 63, 3) := by decide +kernel
theorem dX0_ofFour_25 : decode cX0_ofFour 25 = .ok (.invokevirtual 63, 3) := by decide +kernel
theorem dX0_ofFour_28 : decode cX0_ofFour 28 = .ok (.aload_n 0, 1) := by decide +kernel
theorem dX0_ofFour_29 : decode cX0_ofFour 29 = .ok (.getfield 9, 3) := by decide +kernel
theorem dX0_ofFour_32 : decode cX0_ofFour 32 = .ok (.aload_n 0, 1) := by decide +kernel
theorem dX0_ofFour_33 : decode cX0_ofFour 33 = .ok (.getfield 9, 3) := by decide +kernel
theorem dX0_ofFour_36 : decode cX0_ofFour 36 = .ok (.lload_n 1, 1) := by decide +kernel
theorem dX0_ofFour_37 : decode cX0_ofFour 37 = .ok (.lload_n 3, 1) := by decide +kernel
theorem dX0_ofFour_38 : decode cX0_ofFour 38 = .ok (.invokevirtual 66, 3) := by decide +kernel
theorem dX0_ofFour_41 : decode cX0_ofFour 41 = .ok (.aload_n 0, 1) := by decide +kernel
theorem dX0_ofFour_42 : decode cX0_ofFour 42 = .ok (.getfield 9, 3) := by decide +kernel
theorem dX0_ofFour_45 : decode cX0_ofFour 45 = .ok (.lload 5, 2) := by decide +kernel
theorem dX0_ofFour_47 : decode cX0_ofFour 47 = .ok (.lload 7, 2) := by decide +kernel
theorem dX0_ofFour_49 : decode cX0_ofFour 49 = .ok (.invokevirtual 66, 3) := by decide +kernel
theorem dX0_ofFour_52 : decode cX0_ofFour 52 = .ok (.invokevirtual 66, 3) := by decide +kernel
theorem dX0_ofFour_55 : decode cX0_ofFour 55 = .ok (.invokevirtual 45, 3) := by decide +kernel
theorem dX0_ofFour_58 : decode cX0_ofFour 58 = .ok (.areturn, 1) := by decide +kernel
theorem dX0_outward_0 : decode cX0_outward 0 = .ok (.aload_n 0, 1) := by decide +kernel
theorem dX0_outward_1 : decode cX0_outward 1 = .ok (.getfield 9, 3) := by decide +kernel
theorem dX0_outward_4 : decode cX0_outward 4 = .ok (.lload_n 1, 1) := by decide +kernel
theorem dX0_outward_5 : decode cX0_outward 5 = .ok (.invokevirtual 79, 3) := by decide +kernel
theorem dX0_outward_8 : decode cX0_outward 8 = .ok (.ifCond .eq 21, 3) := by decide +kernel
theorem dX0_outward_11 : decode cX0_outward 11 = .ok (.aload_n 0, 1) := by decide +kernel
theorem dX0_outward_12 : decode cX0_outward 12 = .ok (.getfield 9, 3) := by decide +kernel
theorem dX0_outward_15 : decode cX0_outward 15 = .ok (.iconst 1, 1) := by decide +kernel
theorem dX0_outward_16 : decode cX0_outward 16 = .ok (.aload_n 0, 1) := by decide +kernel
theorem dX0_outward_17 : decode cX0_outward 17 = .ok (.getfield 9, 3) := by decide +kernel
theorem dX0_outward_20 : decode cX0_outward 20 = .ok (.getfield 26, 3) := by decide +kernel
theorem dX0_outward_23 : decode cX0_outward 23 = .ok (.invokevirtual 29, 3) := by decide +kernel
theorem dX0_outward_26 : decode cX0_outward 26 = .ok (.goto 12, 3) := by decide +kernel
theorem dX0_outward_29 : decode cX0_outward 29 = .ok (.aload_n 0, 1) := by decide +kernel
theorem dX0_outward_30 : decode cX0_outward 30 = .ok (.getfield 9, 3) := by decide +kernel
theorem dX0_outward_33 : decode cX0_outward 33 = .ok (.lload_n 1, 1) := by decide +kernel
theorem dX0_outward_34 : decode cX0_outward 34 = .ok (.iconst (-1), 1) := by decide +kernel
theorem dX0_outward_35 : decode cX0_outward 35 = .ok (.invokevirtual 83, 3) := by decide +kernel
theorem dX0_outward_38 : decode cX0_outward 38 = .ok (.lstore 5, 2) := by decide +kernel
theorem dX0_outward_40 : decode cX0_outward 40 = .ok (.aload_n 0, 1) := by decide +kernel
theorem dX0_outward_41 : decode cX0_outward 41 = .ok (.getfield 9, 3) := by decide +kernel
theorem dX0_outward_44 : decode cX0_outward 44 = .ok (.lload_n 3, 1) := by decide +kernel
theorem dX0_outward_45 : decode cX0_outward 45 = .ok (.invokevirtual 79, 3) := by decide +kernel
theorem dX0_outward_48 : decode cX0_outward 48 = .ok (.ifCond .eq 13, 3) := by decide +kernel
theorem dX0_outward_51 : decode cX0_outward 51 = .ok (.aload_n 0, 1) := by decide +kernel
theorem dX0_outward_52 : decode cX0_outward 52 = .ok (.getfield 9, 3) := by decide +kernel
theorem dX0_outward_55 : decode cX0_outward 55 = .ok (.getfield 26, 3) := by decide +kernel
theorem dX0_outward_58 : decode cX0_outward 58 = .ok (.goto 12, 3) := by decide +kernel
theorem dX0_outward_61 : decode cX0_outward 61 = .ok (.aload_n 0, 1) := by decide +kernel
theorem dX0_outward_62 : decode cX0_outward 62 = .ok (.getfield 9, 3) := by decide +kernel
theorem dX0_outward_65 : decode cX0_outward 65 = .ok (.lload_n 3, 1) := by decide +kernel
theorem dX0_outward_66 : decode cX0_outward 66 = .ok (.iconst 1, 1) := by decide +kernel
theorem dX0_outward_67 : decode cX0_outward 67 = .ok (.invokevirtual 83, 3) := by decide +kernel
theorem dX0_outward_70 : decode cX0_outward 70 = .ok (.lstore 7, 2) := by decide +kernel
theorem dX0_outward_72 : decode cX0_outward 72 = .ok (.new 1, 3) := by decide +kernel
theorem dX0_outward_75 : decode cX0_outward 75 = .ok (.dup, 1) := by decide +kernel
theorem dX0_outward_76 : decode cX0_outward 76 = .ok (.aload_n 0, 1) := by decide +kernel
theorem dX0_outward_77 : decode cX0_outward 77 = .ok (.getfield 9, 3) := by decide +kernel
theorem dX0_outward_80 : decode cX0_outward 80 = .ok (.lload 5, 2) := by decide +kernel
theorem dX0_outward_82 : decode cX0_outward 82 = .ok (.lload 7, 2) := by decide +kernel
theorem dX0_outward_84 : decode cX0_outward 84 = .ok (.invokespecial 33, 3) := by decide +kernel
theorem dX0_outward_87 : decode cX0_outward 87 = .ok (.areturn, 1) := by decide +kernel
theorem dX1_cleaned_0 : decode cX1_cleaned 0 = .ok (.lload_n 1, 1) := by decide +kernel
theorem dX1_cleaned_1 : decode cX1_cleaned 1 = .ok (.aload_n 0, 1) := by decide +kernel
theorem dX1_cleaned_2 : decode cX1_cleaned 2 = .ok (.getfield 39, 3) := by decide +kernel
theorem dX1_cleaned_5 : decode cX1_cleaned 5 = .ok (.aload_n 0, 1) := by decide +kernel
theorem dX1_cleaned_6 : decode cX1_cleaned 6 = .ok (.getfield 39, 3) := by decide +kernel
theorem dX1_cleaned_9 : decode cX1_cleaned 9 = .ok (.lconst 1, 1) := by decide +kernel
theorem dX1_cleaned_10 : decode cX1_cleaned 10 = .ok (.lsub, 1) := by decide +kernel
theorem dX1_cleaned_11 : decode cX1_cleaned 11 = .ok (.lor, 1) := by decide +kernel
theorem dX1_cleaned_12 : decode cX1_cleaned 12 = .ok (.land, 1) := by decide +kernel
theorem dX1_cleaned_13 : decode cX1_cleaned 13 = .ok (.lstore_n 3, 1) := by decide +kernel
theorem dX1_cleaned_14 : decode cX1_cleaned 14 = .ok (.aload_n 0, 1) := by decide +kernel
theorem dX1_cleaned_15 : decode cX1_cleaned 15 = .ok (.lload_n 3, 1) := by decide +kernel
theorem dX1_cleaned_16 : decode cX1_cleaned 16 = .ok (.invokevirtual 49, 3) := by decide +kernel
theorem dX1_cleaned_19 : decode cX1_cleaned 19 = .ok (.ifCond .eq 10, 3) := by decide +kernel
theorem dX1_cleaned_22 : decode cX1_cleaned 22 = .ok (.aload_n 0, 1) := by decide +kernel
theorem dX1_cleaned_23 : decode cX1_cleaned 23 = .ok (.getfield 46, 3) := by decide +kernel
theorem dX1_cleaned_26 : decode cX1_cleaned 26 = .ok (.goto 4, 3) := by decide +kernel
theorem dX1_cleaned_29 : decode cX1_cleaned 29 = .ok (.lload_n 3, 1) := by decide +kernel
theorem dX1_cleaned_30 : decode cX1_cleaned 30 = .ok (.lreturn, 1) := by decide +kernel
theorem dX1_magnitude_0 : decode cX1_magnitude 0 = .ok (.lload_n 1, 1) := by decide +kernel
theorem dX1_magnitude_1 : decode cX1_magnitude 1 = .ok (.aload_n 0, 1) := by decide +kernel
theorem dX1_magnitude_2 : decode cX1_magnitude 2 = .ok (.getfield 39, 3) := by decide +kernel
theorem dX1_magnitude_5 : decode cX1_magnitude 5 = .ok (.lconst 1, 1) := by decide +kernel
theorem dX1_magnitude_6 : decode cX1_magnitude 6 = .ok (.lsub, 1) := by decide +kernel
theorem dX1_magnitude_7 : decode cX1_magnitude 7 = .ok (.land, 1) := by decide +kernel
theorem dX1_magnitude_8 : decode cX1_magnitude 8 = .ok (.lreturn, 1) := by decide +kernel
theorem dX1_isNegative_0 : decode cX1_isNegative 0 = .ok (.lload_n 1, 1) := by decide +kernel
theorem dX1_isNegative_1 : decode cX1_isNegative 1 = .ok (.aload_n 0, 1) := by decide +kernel
theorem dX1_isNegative_2 : decode cX1_isNegative 2 = .ok (.getfield 39, 3) := by decide +kernel
theorem dX1_isNegative_5 : decode cX1_isNegative 5 = .ok (.land, 1) := by decide +kernel
theorem dX1_isNegative_6 : decode cX1_isNegative 6 = .ok (.lconst 0, 1) := by decide +kernel
theorem dX1_isNegative_7 : decode cX1_isNegative 7 = .ok (.lcmp, 1) := by decide +kernel
theorem dX1_isNegative_8 : decode cX1_isNegative 8 = .ok (.ifCond .eq 7, 3) := by decide +kernel
theorem dX1_isNegative_11 : decode cX1_isNegative 11 = .ok (.iconst 1, 1) := by decide +kernel
theorem dX1_isNegative_12 : decode cX1_isNegative 12 = .ok (.goto 4, 3) := by decide +kernel
theorem dX1_isNegative_15 : decode cX1_isNegative 15 = .ok (.iconst 0, 1) := by decide +kernel
theorem dX1_isNegative_16 : decode cX1_isNegative 16 = .ok (.ireturn, 1) := by decide +kernel
theorem dX1_isNan_0 : decode cX1_isNan 0 = .ok (.aload_n 0, 1) := by decide +kernel
theorem dX1_isNan_1 : decode cX1_isNan 1 = .ok (.lload_n 1, 1) := by decide +kernel
theorem dX1_isNan_2 : decode cX1_isNan 2 = .ok (.invokevirtual 53, 3) := by decide +kernel
theorem dX1_isNan_5 : decode cX1_isNan 5 = .ok (.aload_n 0, 1) := by decide +kernel
theorem dX1_isNan_6 : decode cX1_isNan 6 = .ok (.getfield 43, 3) := by decide +kernel
theorem dX1_isNan_9 : decode cX1_isNan 9 = .ok (.lcmp, 1) := by decide +kernel
theorem dX1_isNan_10 : decode cX1_isNan 10 = .ok (.ifCond .le 7, 3) := by decide +kernel
theorem dX1_isNan_13 : decode cX1_isNan 13 = .ok (.iconst 1, 1) := by decide +kernel
theorem dX1_isNan_14 : decode cX1_isNan 14 = .ok (.goto 4, 3) := by decide +kernel
theorem dX1_isNan_17 : decode cX1_isNan 17 = .ok (.iconst 0, 1) := by decide +kernel
theorem dX1_isNan_18 : decode cX1_isNan 18 = .ok (.ireturn, 1) := by decide +kernel
theorem dX1_isInfinite_0 : decode cX1_isInfinite 0 = .ok (.aload_n 0, 1) := by decide +kernel
theorem dX1_isInfinite_1 : decode cX1_isInfinite 1 = .ok (.lload_n 1, 1) := by decide +kernel
theorem dX1_isInfinite_2 : decode cX1_isInfinite 2 = .ok (.invokevirtual 53, 3) := by decide +kernel
theorem dX1_isInfinite_5 : decode cX1_isInfinite 5 = .ok (.aload_n 0, 1) := by decide +kernel
theorem dX1_isInfinite_6 : decode cX1_isInfinite 6 = .ok (.getfield 43, 3) := by decide +kernel
theorem dX1_isInfinite_9 : decode cX1_isInfinite 9 = .ok (.lcmp, 1) := by decide +kernel
theorem dX1_isInfinite_10 : decode cX1_isInfinite 10 = .ok (.ifCond .ne 7, 3) := by decide +kernel
theorem dX1_isInfinite_13 : decode cX1_isInfinite 13 = .ok (.iconst 1, 1) := by decide +kernel
theorem dX1_isInfinite_14 : decode cX1_isInfinite 14 = .ok (.goto 4, 3) := by decide +kernel
theorem dX1_isInfinite_17 : decode cX1_isInfinite 17 = .ok (.iconst 0, 1) := by decide +kernel
theorem dX1_isInfinite_18 : decode cX1_isInfinite 18 = .ok (.ireturn, 1) := by decide +kernel
theorem dX1_signed_0 : decode cX1_signed 0 = .ok (.iload_n 1, 1) := by decide +kernel
theorem dX1_signed_1 : decode cX1_signed 1 = .ok (.ifCond .eq 12, 3) := by decide +kernel
theorem dX1_signed_4 : decode cX1_signed 4 = .ok (.aload_n 0, 1) := by decide +kernel
theorem dX1_signed_5 : decode cX1_signed 5 = .ok (.getfield 39, 3) := by decide +kernel
theorem dX1_signed_8 : decode cX1_signed 8 = .ok (.lload_n 2, 1) := by decide +kernel
theorem dX1_signed_9 : decode cX1_signed 9 = .ok (.lor, 1) := by decide +kernel
theorem dX1_signed_10 : decode cX1_signed 10 = .ok (.goto 4, 3) := by decide +kernel
theorem dX1_signed_13 : decode cX1_signed 13 = .ok (.lload_n 2, 1) := by decide +kernel
theorem dX1_signed_14 : decode cX1_signed 14 = .ok (.lreturn, 1) := by decide +kernel
theorem dX1_opposite_0 : decode cX1_opposite 0 = .ok (.aload_n 0, 1) := by decide +kernel
theorem dX1_opposite_1 : decode cX1_opposite 1 = .ok (.lload_n 1, 1) := by decide +kernel
theorem dX1_opposite_2 : decode cX1_opposite 2 = .ok (.invokevirtual 49, 3) := by decide +kernel
theorem dX1_opposite_5 : decode cX1_opposite 5 = .ok (.ifCond .eq 7, 3) := by decide +kernel
theorem dX1_opposite_8 : decode cX1_opposite 8 = .ok (.lload_n 1, 1) := by decide +kernel
theorem dX1_opposite_9 : decode cX1_opposite 9 = .ok (.goto 9, 3) := by decide +kernel
theorem dX1_opposite_12 : decode cX1_opposite 12 = .ok (.lload_n 1, 1) := by decide +kernel
theorem dX1_opposite_13 : decode cX1_opposite 13 = .ok (.aload_n 0, 1) := by decide +kernel
theorem dX1_opposite_14 : decode cX1_opposite 14 = .ok (.getfield 39, 3) := by decide +kernel
theorem dX1_opposite_17 : decode cX1_opposite 17 = .ok (.lxor, 1) := by decide +kernel
theorem dX1_opposite_18 : decode cX1_opposite 18 = .ok (.lreturn, 1) := by decide +kernel
theorem dX1_one_0 : decode cX1_one 0 = .ok (.aload_n 0, 1) := by decide +kernel
theorem dX1_one_1 : decode cX1_one 1 = .ok (.getfield 33, 3) := by decide +kernel
theorem dX1_one_4 : decode cX1_one 4 = .ok (.iconst 1, 1) := by decide +kernel
theorem dX1_one_5 : decode cX1_one 5 = .ok (.ishr, 1) := by decide +kernel
theorem dX1_one_6 : decode cX1_one 6 = .ok (.i2l, 1) := by decide +kernel
theorem dX1_one_7 : decode cX1_one 7 = .ok (.aload_n 0, 1) := by decide +kernel
theorem dX1_one_8 : decode cX1_one 8 = .ok (.getfield 29, 3) := by decide +kernel
theorem dX1_one_11 : decode cX1_one 11 = .ok (.lshl, 1) := by decide +kernel
theorem dX1_one_12 : decode cX1_one 12 = .ok (.lreturn, 1) := by decide +kernel
theorem dX1_sortOf_0 : decode cX1_sortOf 0 = .ok (.aload_n 0, 1) := by decide +kernel
theorem dX1_sortOf_1 : decode cX1_sortOf 1 = .ok (.lload_n 1, 1) := by decide +kernel
theorem dX1_sortOf_2 : decode cX1_sortOf 2 = .ok (.invokevirtual 49, 3) := by decide +kernel
theorem dX1_sortOf_5 : decode cX1_sortOf 5 = .ok (.ifCond .eq 5, 3) := by decide +kernel
theorem dX1_sortOf_8 : decode cX1_sortOf 8 = .ok (.iconst 3, 1) := by decide +kernel
theorem dX1_sortOf_9 : decode cX1_sortOf 9 = .ok (.ireturn, 1) := by decide +kernel
theorem dX1_sortOf_10 : decode cX1_sortOf 10 = .ok (.aload_n 0, 1) := by decide +kernel
theorem dX1_sortOf_11 : decode cX1_sortOf 11 = .ok (.lload_n 1, 1) := by decide +kernel
theorem dX1_sortOf_12 : decode cX1_sortOf 12 = .ok (.invokevirtual 53, 3) := by decide +kernel
theorem dX1_sortOf_15 : decode cX1_sortOf 15 = .ok (.lstore_n 3, 1) := by decide +kernel
theorem dX1_sortOf_16 : decode cX1_sortOf 16 = .ok (.lload_n 3, 1) := by decide +kernel
theorem dX1_sortOf_17 : decode cX1_sortOf 17 = .ok (.lconst 0, 1) := by decide +kernel
theorem dX1_sortOf_18 : decode cX1_sortOf 18 = .ok (.lcmp, 1) := by decide +kernel
theorem dX1_sortOf_19 : decode cX1_sortOf 19 = .ok (.ifCond .ne 7, 3) := by decide +kernel
theorem dX1_sortOf_22 : decode cX1_sortOf 22 = .ok (.iconst 0, 1) := by decide +kernel
theorem dX1_sortOf_23 : decode cX1_sortOf 23 = .ok (.goto 17, 3) := by decide +kernel
theorem dX1_sortOf_26 : decode cX1_sortOf 26 = .ok (.lload_n 3, 1) := by decide +kernel
theorem dX1_sortOf_27 : decode cX1_sortOf 27 = .ok (.aload_n 0, 1) := by decide +kernel
theorem dX1_sortOf_28 : decode cX1_sortOf 28 = .ok (.getfield 43, 3) := by decide +kernel
theorem dX1_sortOf_31 : decode cX1_sortOf 31 = .ok (.lcmp, 1) := by decide +kernel
theorem dX1_sortOf_32 : decode cX1_sortOf 32 = .ok (.ifCond .ne 7, 3) := by decide +kernel
theorem dX1_sortOf_35 : decode cX1_sortOf 35 = .ok (.iconst 2, 1) := by decide +kernel
theorem dX1_sortOf_36 : decode cX1_sortOf 36 = .ok (.goto 4, 3) := by decide +kernel
theorem dX1_sortOf_39 : decode cX1_sortOf 39 = .ok (.iconst 1, 1) := by decide +kernel
theorem dX1_sortOf_40 : decode cX1_sortOf 40 = .ok (.istore 5, 2) := by decide +kernel
theorem dX1_sortOf_42 : decode cX1_sortOf 42 = .ok (.aload_n 0, 1) := by decide +kernel
theorem dX1_sortOf_43 : decode cX1_sortOf 43 = .ok (.lload_n 1, 1) := by decide +kernel
theorem dX1_sortOf_44 : decode cX1_sortOf 44 = .ok (.invokevirtual 57, 3) := by decide +kernel
theorem dX1_sortOf_47 : decode cX1_sortOf 47 = .ok (.ifCond .eq 10, 3) := by decide +kernel
theorem dX1_sortOf_50 : decode cX1_sortOf 50 = .ok (.iload 5, 2) := by decide +kernel
theorem dX1_sortOf_52 : decode cX1_sortOf 52 = .ok (.iconst 4, 1) := by decide +kernel
theorem dX1_sortOf_53 : decode cX1_sortOf 53 = .ok (.iadd, 1) := by decide +kernel
theorem dX1_sortOf_54 : decode cX1_sortOf 54 = .ok (.goto 5, 3) := by decide +kernel
theorem dX1_sortOf_57 : decode cX1_sortOf 57 = .ok (.iload 5, 2) := by decide +kernel
theorem dX1_sortOf_59 : decode cX1_sortOf 59 = .ok (.ireturn, 1) := by decide +kernel
theorem dX1_significand_0 : decode cX1_significand 0 = .ok (.lconst 1, 1) := by decide +kernel
theorem dX1_significand_1 : decode cX1_significand 1 = .ok (.aload_n 0, 1) := by decide +kernel
theorem dX1_significand_2 : decode cX1_significand 2 = .ok (.getfield 29, 3) := by decide +kernel
theorem dX1_significand_5 : decode cX1_significand 5 = .ok (.lshl, 1) := by decide +kernel
theorem dX1_significand_6 : decode cX1_significand 6 = .ok (.lstore_n 3, 1) := by decide +kernel
theorem dX1_significand_7 : decode cX1_significand 7 = .ok (.lload_n 1, 1) := by decide +kernel
theorem dX1_significand_8 : decode cX1_significand 8 = .ok (.lload_n 3, 1) := by decide +kernel
theorem dX1_significand_9 : decode cX1_significand 9 = .ok (.lconst 1, 1) := by decide +kernel
theorem dX1_significand_10 : decode cX1_significand 10 = .ok (.lsub, 1) := by decide +kernel
theorem dX1_significand_11 : decode cX1_significand 11 = .ok (.land, 1) := by decide +kernel
theorem dX1_significand_12 : decode cX1_significand 12 = .ok (.lstore 5, 2) := by decide +kernel
theorem dX1_significand_14 : decode cX1_significand 14 = .ok (.aload_n 0, 1) := by decide +kernel
theorem dX1_significand_15 : decode cX1_significand 15 = .ok (.lload_n 1, 1) := by decide +kernel
theorem dX1_significand_16 : decode cX1_significand 16 = .ok (.invokevirtual 60, 3) := by decide +kernel
theorem dX1_significand_19 : decode cX1_significand 19 = .ok (.ifCond .ne 8, 3) := by decide +kernel
theorem dX1_significand_22 : decode cX1_significand 22 = .ok (.lload 5, 2) := by decide +kernel
theorem dX1_significand_24 : decode cX1_significand 24 = .ok (.goto 7, 3) := by decide +kernel
theorem dX1_significand_27 : decode cX1_significand 27 = .ok (.lload 5, 2) := by decide +kernel
theorem dX1_significand_29 : decode cX1_significand 29 = .ok (.lload_n 3, 1) := by decide +kernel
theorem dX1_significand_30 : decode cX1_significand 30 = .ok (.lor, 1) := by decide +kernel
theorem dX1_significand_31 : decode cX1_significand 31 = .ok (.lreturn, 1) := by decide +kernel
theorem dX1_exponent_0 : decode cX1_exponent 0 = .ok (.aload_n 0, 1) := by decide +kernel
theorem dX1_exponent_1 : decode cX1_exponent 1 = .ok (.lload_n 1, 1) := by decide +kernel
theorem dX1_exponent_2 : decode cX1_exponent 2 = .ok (.invokevirtual 60, 3) := by decide +kernel
theorem dX1_exponent_5 : decode cX1_exponent 5 = .ok (.iconst 1, 1) := by decide +kernel
theorem dX1_exponent_6 : decode cX1_exponent 6 = .ok (.invokestatic 64, 3) := by decide +kernel
theorem dX1_exponent_9 : decode cX1_exponent 9 = .ok (.iconst 1, 1) := by decide +kernel
theorem dX1_exponent_10 : decode cX1_exponent 10 = .ok (.isub, 1) := by decide +kernel
theorem dX1_exponent_11 : decode cX1_exponent 11 = .ok (.aload_n 0, 1) := by decide +kernel
theorem dX1_exponent_12 : decode cX1_exponent 12 = .ok (.getfield 36, 3) := by decide +kernel
theorem dX1_exponent_15 : decode cX1_exponent 15 = .ok (.iadd, 1) := by decide +kernel
theorem dX1_exponent_16 : decode cX1_exponent 16 = .ok (.ireturn, 1) := by decide +kernel
theorem dX1_exponentField_0 : decode cX1_exponentField 0 = .ok (.lload_n 1, 1) := by decide +kernel
theorem dX1_exponentField_1 : decode cX1_exponentField 1 = .ok (.aload_n 0, 1) := by decide +kernel
theorem dX1_exponentField_2 : decode cX1_exponentField 2 = .ok (.getfield 29, 3) := by decide +kernel
theorem dX1_exponentField_5 : decode cX1_exponentField 5 = .ok (.lushr, 1) := by decide +kernel
theorem dX1_exponentField_6 : decode cX1_exponentField 6 = .ok (.l2i, 1) := by decide +kernel
theorem dX1_exponentField_7 : decode cX1_exponentField 7 = .ok (.aload_n 0, 1) := by decide +kernel
theorem dX1_exponentField_8 : decode cX1_exponentField 8 = .ok (.getfield 33, 3) := by decide +kernel
theorem dX1_exponentField_11 : decode cX1_exponentField 11 = .ok (.iand, 1) := by decide +kernel
theorem dX1_exponentField_12 : decode cX1_exponentField 12 = .ok (.ireturn, 1) := by decide +kernel
theorem dX1_valueRank_0 : decode cX1_valueRank 0 = .ok (.aload_n 0, 1) := by decide +kernel
theorem dX1_valueRank_1 : decode cX1_valueRank 1 = .ok (.lload_n 1, 1) := by decide +kernel
theorem dX1_valueRank_2 : decode cX1_valueRank 2 = .ok (.invokevirtual 57, 3) := by decide +kernel
theorem dX1_valueRank_5 : decode cX1_valueRank 5 = .ok (.ifCond .eq 12, 3) := by decide +kernel
theorem dX1_valueRank_8 : decode cX1_valueRank 8 = .ok (.aload_n 0, 1) := by decide +kernel
theorem dX1_valueRank_9 : decode cX1_valueRank 9 = .ok (.lload_n 1, 1) := by decide +kernel
theorem dX1_valueRank_10 : decode cX1_valueRank 10 = .ok (.invokevirtual 53, 3) := by decide +kernel
theorem dX1_valueRank_13 : decode cX1_valueRank 13 = .ok (.lneg, 1) := by decide +kernel
theorem dX1_valueRank_14 : decode cX1_valueRank 14 = .ok (.goto 8, 3) := by decide +kernel
theorem dX1_valueRank_17 : decode cX1_valueRank 17 = .ok (.aload_n 0, 1) := by decide +kernel
theorem dX1_valueRank_18 : decode cX1_valueRank 18 = .ok (.lload_n 1, 1) := by decide +kernel
theorem dX1_valueRank_19 : decode cX1_valueRank 19 = .ok (.invokevirtual 53, 3) := by decide +kernel
theorem dX1_valueRank_22 : decode cX1_valueRank 22 = .ok (.lreturn, 1) := by decide +kernel
theorem dX1_totalRank_0 : decode cX1_totalRank 0 = .ok (.aload_n 0, 1) := by decide +kernel
theorem dX1_totalRank_1 : decode cX1_totalRank 1 = .ok (.lload_n 1, 1) := by decide +kernel
theorem dX1_totalRank_2 : decode cX1_totalRank 2 = .ok (.invokevirtual 57, 3) := by decide +kernel
theorem dX1_totalRank_5 : decode cX1_totalRank 5 = .ok (.ifCond .eq 15, 3) := by decide +kernel
theorem dX1_totalRank_8 : decode cX1_totalRank 8 = .ok (.ldc2_w 70, 3) := by decide +kernel
theorem dX1_totalRank_11 : decode cX1_totalRank 11 = .ok (.aload_n 0, 1) := by decide +kernel
theorem dX1_totalRank_12 : decode cX1_totalRank 12 = .ok (.lload_n 1, 1) := by decide +kernel
theorem dX1_totalRank_13 : decode cX1_totalRank 13 = .ok (.invokevirtual 53, 3) := by decide +kernel
theorem dX1_totalRank_16 : decode cX1_totalRank 16 = .ok (.lsub, 1) := by decide +kernel
theorem dX1_totalRank_17 : decode cX1_totalRank 17 = .ok (.goto 8, 3) := by decide +kernel
theorem dX1_totalRank_20 : decode cX1_totalRank 20 = .ok (.aload_n 0, 1) := by decide +kernel
theorem dX1_totalRank_21 : decode cX1_totalRank 21 = .ok (.lload_n 1, 1) := by decide +kernel
theorem dX1_totalRank_22 : decode cX1_totalRank 22 = .ok (.invokevirtual 53, 3) := by decide +kernel
theorem dX1_totalRank_25 : decode cX1_totalRank 25 = .ok (.lreturn, 1) := by decide +kernel
theorem dX1_isBelow_0 : decode cX1_isBelow 0 = .ok (.aload_n 0, 1) := by decide +kernel
theorem dX1_isBelow_1 : decode cX1_isBelow 1 = .ok (.lload_n 1, 1) := by decide +kernel
theorem dX1_isBelow_2 : decode cX1_isBelow 2 = .ok (.invokevirtual 49, 3) := by decide +kernel
theorem dX1_isBelow_5 : decode cX1_isBelow 5 = .ok (.ifCond .ne 29, 3) := by decide +kernel
theorem dX1_isBelow_8 : decode cX1_isBelow 8 = .ok (.aload_n 0, 1) := by decide +kernel
theorem dX1_isBelow_9 : decode cX1_isBelow 9 = .ok (.lload_n 3, 1) := by decide +kernel
theorem dX1_isBelow_10 : decode cX1_isBelow 10 = .ok (.invokevirtual 49, 3) := by decide +kernel
theorem dX1_isBelow_13 : decode cX1_isBelow 13 = .ok (.ifCond .ne 21, 3) := by decide +kernel
theorem dX1_isBelow_16 : decode cX1_isBelow 16 = .ok (.aload_n 0, 1) := by decide +kernel
theorem dX1_isBelow_17 : decode cX1_isBelow 17 = .ok (.lload_n 1, 1) := by decide +kernel
theorem dX1_isBelow_18 : decode cX1_isBelow 18 = .ok (.invokevirtual 72, 3) := by decide +kernel
theorem dX1_isBelow_21 : decode cX1_isBelow 21 = .ok (.aload_n 0, 1) := by decide +kernel
theorem dX1_isBelow_22 : decode cX1_isBelow 22 = .ok (.lload_n 3, 1) := by decide +kernel
theorem dX1_isBelow_23 : decode cX1_isBelow 23 = .ok (.invokevirtual 72, 3) := by decide +kernel
theorem dX1_isBelow_26 : decode cX1_isBelow 26 = .ok (.lcmp, 1) := by decide +kernel
theorem dX1_isBelow_27 : decode cX1_isBelow 27 = .ok (.ifCond .ge 7, 3) := by decide +kernel
theorem dX1_isBelow_30 : decode cX1_isBelow 30 = .ok (.iconst 1, 1) := by decide +kernel
theorem dX1_isBelow_31 : decode cX1_isBelow 31 = .ok (.goto 4, 3) := by decide +kernel
theorem dX1_isBelow_34 : decode cX1_isBelow 34 = .ok (.iconst 0, 1) := by decide +kernel
theorem dX1_isBelow_35 : decode cX1_isBelow 35 = .ok (.ireturn, 1) := by decide +kernel
theorem dX1_atMost_0 : decode cX1_atMost 0 = .ok (.aload_n 0, 1) := by decide +kernel
theorem dX1_atMost_1 : decode cX1_atMost 1 = .ok (.lload_n 1, 1) := by decide +kernel
theorem dX1_atMost_2 : decode cX1_atMost 2 = .ok (.invokevirtual 49, 3) := by decide +kernel
theorem dX1_atMost_5 : decode cX1_atMost 5 = .ok (.ifCond .ne 29, 3) := by decide +kernel
theorem dX1_atMost_8 : decode cX1_atMost 8 = .ok (.aload_n 0, 1) := by decide +kernel
theorem dX1_atMost_9 : decode cX1_atMost 9 = .ok (.lload_n 3, 1) := by decide +kernel
theorem dX1_atMost_10 : decode cX1_atMost 10 = .ok (.invokevirtual 49, 3) := by decide +kernel
theorem dX1_atMost_13 : decode cX1_atMost 13 = .ok (.ifCond .ne 21, 3) := by decide +kernel
theorem dX1_atMost_16 : decode cX1_atMost 16 = .ok (.aload_n 0, 1) := by decide +kernel
theorem dX1_atMost_17 : decode cX1_atMost 17 = .ok (.lload_n 1, 1) := by decide +kernel
theorem dX1_atMost_18 : decode cX1_atMost 18 = .ok (.invokevirtual 72, 3) := by decide +kernel
theorem dX1_atMost_21 : decode cX1_atMost 21 = .ok (.aload_n 0, 1) := by decide +kernel
theorem dX1_atMost_22 : decode cX1_atMost 22 = .ok (.lload_n 3, 1) := by decide +kernel
theorem dX1_atMost_23 : decode cX1_atMost 23 = .ok (.invokevirtual 72, 3) := by decide +kernel
theorem dX1_atMost_26 : decode cX1_atMost 26 = .ok (.lcmp, 1) := by decide +kernel
theorem dX1_atMost_27 : decode cX1_atMost 27 = .ok (.ifCond .gt 7, 3) := by decide +kernel
theorem dX1_atMost_30 : decode cX1_atMost 30 = .ok (.iconst 1, 1) := by decide +kernel
theorem dX1_atMost_31 : decode cX1_atMost 31 = .ok (.goto 4, 3) := by decide +kernel
theorem dX1_atMost_34 : decode cX1_atMost 34 = .ok (.iconst 0, 1) := by decide +kernel
theorem dX1_atMost_35 : decode cX1_atMost 35 = .ok (.ireturn, 1) := by decide +kernel
theorem dX1_relations_0 : decode cX1_relations 0 = .ok (.aload_n 0, 1) := by decide +kernel
theorem dX1_relations_1 : decode cX1_relations 1 = .ok (.lload_n 1, 1) := by decide +kernel
theorem dX1_relations_2 : decode cX1_relations 2 = .ok (.lload_n 3, 1) := by decide +kernel
theorem dX1_relations_3 : decode cX1_relations 3 = .ok (.invokevirtual 75, 3) := by decide +kernel
theorem dX1_relations_6 : decode cX1_relations 6 = .ok (.ifCond .eq 6, 3) := by decide +kernel
theorem dX1_relations_9 : decode cX1_relations 9 = .ok (.bipush 41, 2) := by decide +kernel
theorem dX1_relations_11 : decode cX1_relations 11 = .ok (.ireturn, 1) := by decide +kernel
theorem dX1_relations_12 : decode cX1_relations 12 = .ok (.aload_n 0, 1) := by decide +kernel
theorem dX1_relations_13 : decode cX1_relations 13 = .ok (.lload_n 3, 1) := by decide +kernel
theorem dX1_relations_14 : decode cX1_relations 14 = .ok (.lload_n 1, 1) := by decide +kernel
theorem dX1_relations_15 : decode cX1_relations 15 = .ok (.invokevirtual 75, 3) := by decide +kernel
theorem dX1_relations_18 : decode cX1_relations 18 = .ok (.ifCond .eq 6, 3) := by decide +kernel
theorem dX1_relations_21 : decode cX1_relations 21 = .ok (.bipush 52, 2) := by decide +kernel
theorem dX1_relations_23 : decode cX1_relations 23 = .ok (.ireturn, 1) := by decide +kernel
theorem dX1_relations_24 : decode cX1_relations 24 = .ok (.aload_n 0, 1) := by decide +kernel
theorem dX1_relations_25 : decode cX1_relations 25 = .ok (.lload_n 1, 1) := by decide +kernel
theorem dX1_relations_26 : decode cX1_relations 26 = .ok (.lload_n 3, 1) := by decide +kernel
theorem dX1_relations_27 : decode cX1_relations 27 = .ok (.invokevirtual 79, 3) := by decide +kernel
theorem dX1_relations_30 : decode cX1_relations 30 = .ok (.ifCond .eq 8, 3) := by decide +kernel
theorem dX1_relations_33 : decode cX1_relations 33 = .ok (.bipush 26, 2) := by decide +kernel
theorem dX1_relations_35 : decode cX1_relations 35 = .ok (.goto 5, 3) := by decide +kernel
theorem dX1_relations_38 : decode cX1_relations 38 = .ok (.bipush 32, 2) := by decide +kernel
theorem dX1_relations_40 : decode cX1_relations 40 = .ok (.ireturn, 1) := by decide +kernel
theorem dX1_lesser_0 : decode cX1_lesser 0 = .ok (.aload_n 0, 1) := by decide +kernel
theorem dX1_lesser_1 : decode cX1_lesser 1 = .ok (.lload_n 1, 1) := by decide +kernel
theorem dX1_lesser_2 : decode cX1_lesser 2 = .ok (.invokevirtual 82, 3) := by decide +kernel
theorem dX1_lesser_5 : decode cX1_lesser 5 = .ok (.aload_n 0, 1) := by decide +kernel
theorem dX1_lesser_6 : decode cX1_lesser 6 = .ok (.lload_n 3, 1) := by decide +kernel
theorem dX1_lesser_7 : decode cX1_lesser 7 = .ok (.invokevirtual 82, 3) := by decide +kernel
theorem dX1_lesser_10 : decode cX1_lesser 10 = .ok (.lcmp, 1) := by decide +kernel
theorem dX1_lesser_11 : decode cX1_lesser 11 = .ok (.ifCond .gt 7, 3) := by decide +kernel
theorem dX1_lesser_14 : decode cX1_lesser 14 = .ok (.lload_n 1, 1) := by decide +kernel
theorem dX1_lesser_15 : decode cX1_lesser 15 = .ok (.goto 4, 3) := by decide +kernel
theorem dX1_lesser_18 : decode cX1_lesser 18 = .ok (.lload_n 3, 1) := by decide +kernel
theorem dX1_lesser_19 : decode cX1_lesser 19 = .ok (.lreturn, 1) := by decide +kernel
theorem dX1_greater_0 : decode cX1_greater 0 = .ok (.aload_n 0, 1) := by decide +kernel
theorem dX1_greater_1 : decode cX1_greater 1 = .ok (.lload_n 1, 1) := by decide +kernel
theorem dX1_greater_2 : decode cX1_greater 2 = .ok (.invokevirtual 82, 3) := by decide +kernel
theorem dX1_greater_5 : decode cX1_greater 5 = .ok (.aload_n 0, 1) := by decide +kernel
theorem dX1_greater_6 : decode cX1_greater 6 = .ok (.lload_n 3, 1) := by decide +kernel
theorem dX1_greater_7 : decode cX1_greater 7 = .ok (.invokevirtual 82, 3) := by decide +kernel
theorem dX1_greater_10 : decode cX1_greater 10 = .ok (.lcmp, 1) := by decide +kernel
theorem dX1_greater_11 : decode cX1_greater 11 = .ok (.ifCond .lt 7, 3) := by decide +kernel
theorem dX1_greater_14 : decode cX1_greater 14 = .ok (.lload_n 1, 1) := by decide +kernel
theorem dX1_greater_15 : decode cX1_greater 15 = .ok (.goto 4, 3) := by decide +kernel
theorem dX1_greater_18 : decode cX1_greater 18 = .ok (.lload_n 3, 1) := by decide +kernel
theorem dX1_greater_19 : decode cX1_greater 19 = .ok (.lreturn, 1) := by decide +kernel
theorem dX1_stepped_0 : decode cX1_stepped 0 = .ok (.iload_n 3, 1) := by decide +kernel
theorem dX1_stepped_1 : decode cX1_stepped 1 = .ok (.ifCond .eq 11, 3) := by decide +kernel
theorem dX1_stepped_4 : decode cX1_stepped 4 = .ok (.aload_n 0, 1) := by decide +kernel
theorem dX1_stepped_5 : decode cX1_stepped 5 = .ok (.lload_n 1, 1) := by decide +kernel
theorem dX1_stepped_6 : decode cX1_stepped 6 = .ok (.invokevirtual 49, 3) := by decide +kernel
theorem dX1_stepped_9 : decode cX1_stepped 9 = .ok (.ifCond .eq 5, 3) := by decide +kernel
theorem dX1_stepped_12 : decode cX1_stepped 12 = .ok (.lload_n 1, 1) := by decide +kernel
theorem dX1_stepped_13 : decode cX1_stepped 13 = .ok (.lreturn, 1) := by decide +kernel
theorem dX1_stepped_14 : decode cX1_stepped 14 = .ok (.aload_n 0, 1) := by decide +kernel
theorem dX1_stepped_15 : decode cX1_stepped 15 = .ok (.getfield 43, 3) := by decide +kernel
theorem dX1_stepped_18 : decode cX1_stepped 18 = .ok (.lneg, 1) := by decide +kernel
theorem dX1_stepped_19 : decode cX1_stepped 19 = .ok (.aload_n 0, 1) := by decide +kernel
theorem dX1_stepped_20 : decode cX1_stepped 20 = .ok (.getfield 43, 3) := by decide +kernel
theorem dX1_stepped_23 : decode cX1_stepped 23 = .ok (.aload_n 0, 1) := by decide +kernel
theorem dX1_stepped_24 : decode cX1_stepped 24 = .ok (.lload_n 1, 1) := by decide +kernel
theorem dX1_stepped_25 : decode cX1_stepped 25 = .ok (.invokevirtual 72, 3) := by decide +kernel
theorem dX1_stepped_28 : decode cX1_stepped 28 = .ok (.iload_n 3, 1) := by decide +kernel
theorem dX1_stepped_29 : decode cX1_stepped 29 = .ok (.i2l, 1) := by decide +kernel
theorem dX1_stepped_30 : decode cX1_stepped 30 = .ok (.ladd, 1) := by decide +kernel
theorem dX1_stepped_31 : decode cX1_stepped 31 = .ok (.invokestatic 85, 3) := by decide +kernel
theorem dX1_stepped_34 : decode cX1_stepped 34 = .ok (.invokestatic 89, 3) := by decide +kernel
theorem dX1_stepped_37 : decode cX1_stepped 37 = .ok (.lstore 4, 2) := by decide +kernel
theorem dX1_stepped_39 : decode cX1_stepped 39 = .ok (.lload 4, 2) := by decide +kernel
theorem dX1_stepped_41 : decode cX1_stepped 41 = .ok (.lconst 0, 1) := by decide +kernel
theorem dX1_stepped_42 : decode cX1_stepped 42 = .ok (.lcmp, 1) := by decide +kernel
theorem dX1_stepped_43 : decode cX1_stepped 43 = .ok (.ifCond .ne 18, 3) := by decide +kernel
theorem dX1_stepped_46 : decode cX1_stepped 46 = .ok (.aload_n 0, 1) := by decide +kernel
theorem dX1_stepped_47 : decode cX1_stepped 47 = .ok (.iload_n 3, 1) := by decide +kernel
theorem dX1_stepped_48 : decode cX1_stepped 48 = .ok (.ifCond .le 7, 3) := by decide +kernel
theorem dX1_stepped_51 : decode cX1_stepped 51 = .ok (.iconst 1, 1) := by decide +kernel
theorem dX1_stepped_52 : decode cX1_stepped 52 = .ok (.goto 4, 3) := by decide +kernel
theorem dX1_stepped_55 : decode cX1_stepped 55 = .ok (.iconst 0, 1) := by decide +kernel
theorem dX1_stepped_56 : decode cX1_stepped 56 = .ok (.lconst 0, 1) := by decide +kernel
theorem dX1_stepped_57 : decode cX1_stepped 57 = .ok (.invokevirtual 91, 3) := by decide +kernel
theorem dX1_stepped_60 : decode cX1_stepped 60 = .ok (.lreturn, 1) := by decide +kernel
theorem dX1_stepped_61 : decode cX1_stepped 61 = .ok (.aload_n 0, 1) := by decide +kernel
theorem dX1_stepped_62 : decode cX1_stepped 62 = .ok (.lload 4, 2) := by decide +kernel
theorem dX1_stepped_64 : decode cX1_stepped 64 = .ok (.lconst 0, 1) := by decide +kernel
theorem dX1_stepped_65 : decode cX1_stepped 65 = .ok (.lcmp, 1) := by decide +kernel
theorem dX1_stepped_66 : decode cX1_stepped 66 = .ok (.ifCond .ge 7, 3) := by decide +kernel
theorem dX1_stepped_69 : decode cX1_stepped 69 = .ok (.iconst 1, 1) := by decide +kernel
theorem dX1_stepped_70 : decode cX1_stepped 70 = .ok (.goto 4, 3) := by decide +kernel
theorem dX1_stepped_73 : decode cX1_stepped 73 = .ok (.iconst 0, 1) := by decide +kernel
theorem dX1_stepped_74 : decode cX1_stepped 74 = .ok (.lload 4, 2) := by decide +kernel
theorem dX1_stepped_76 : decode cX1_stepped 76 = .ok (.invokestatic 95, 3) := by decide +kernel
theorem dX1_stepped_79 : decode cX1_stepped 79 = .ok (.invokevirtual 91, 3) := by decide +kernel
theorem dX1_stepped_82 : decode cX1_stepped 82 = .ok (.lreturn, 1) := by decide +kernel
theorem dX1_rounded_0 : decode cX1_rounded 0 = .ok (.lload_n 2, 1) := by decide +kernel
theorem dX1_rounded_1 : decode cX1_rounded 1 = .ok (.lconst 0, 1) := by decide +kernel
theorem dX1_rounded_2 : decode cX1_rounded 2 = .ok (.lcmp, 1) := by decide +kernel
theorem dX1_rounded_3 : decode cX1_rounded 3 = .ok (.ifCond .ne 10, 3) := by decide +kernel
theorem dX1_rounded_6 : decode cX1_rounded 6 = .ok (.aload_n 0, 1) := by decide +kernel
theorem dX1_rounded_7 : decode cX1_rounded 7 = .ok (.iload_n 1, 1) := by decide +kernel
theorem dX1_rounded_8 : decode cX1_rounded 8 = .ok (.lconst 0, 1) := by decide +kernel
theorem dX1_rounded_9 : decode cX1_rounded 9 = .ok (.invokevirtual 91, 3) := by decide +kernel
theorem dX1_rounded_12 : decode cX1_rounded 12 = .ok (.lreturn, 1) := by decide +kernel
theorem dX1_rounded_13 : decode cX1_rounded 13 = .ok (.bipush 64, 2) := by decide +kernel
theorem dX1_rounded_15 : decode cX1_rounded 15 = .ok (.lload_n 2, 1) := by decide +kernel
theorem dX1_rounded_16 : decode cX1_rounded 16 = .ok (.invokestatic 98, 3) := by decide +kernel
theorem dX1_rounded_19 : decode cX1_rounded 19 = .ok (.isub, 1) := by decide +kernel
theorem dX1_rounded_20 : decode cX1_rounded 20 = .ok (.istore 5, 2) := by decide +kernel
theorem dX1_rounded_22 : decode cX1_rounded 22 = .ok (.iload 5, 2) := by decide +kernel
theorem dX1_rounded_24 : decode cX1_rounded 24 = .ok (.iconst 1, 1) := by decide +kernel
theorem dX1_rounded_25 : decode cX1_rounded 25 = .ok (.isub, 1) := by decide +kernel
theorem dX1_rounded_26 : decode cX1_rounded 26 = .ok (.aload_n 0, 1) := by decide +kernel
theorem dX1_rounded_27 : decode cX1_rounded 27 = .ok (.getfield 29, 3) := by decide +kernel
theorem dX1_rounded_30 : decode cX1_rounded 30 = .ok (.isub, 1) := by decide +kernel
theorem dX1_rounded_31 : decode cX1_rounded 31 = .ok (.aload_n 0, 1) := by decide +kernel
theorem dX1_rounded_32 : decode cX1_rounded 32 = .ok (.getfield 36, 3) := by decide +kernel
theorem dX1_rounded_35 : decode cX1_rounded 35 = .ok (.iload 4, 2) := by decide +kernel
theorem dX1_rounded_37 : decode cX1_rounded 37 = .ok (.isub, 1) := by decide +kernel
theorem dX1_rounded_38 : decode cX1_rounded 38 = .ok (.invokestatic 64, 3) := by decide +kernel
theorem dX1_rounded_41 : decode cX1_rounded 41 = .ok (.istore 6, 2) := by decide +kernel
theorem dX1_rounded_43 : decode cX1_rounded 43 = .ok (.iload 4, 2) := by decide +kernel
theorem dX1_rounded_45 : decode cX1_rounded 45 = .ok (.iload 6, 2) := by decide +kernel
theorem dX1_rounded_47 : decode cX1_rounded 47 = .ok (.iadd, 1) := by decide +kernel
theorem dX1_rounded_48 : decode cX1_rounded 48 = .ok (.aload_n 0, 1) := by decide +kernel
theorem dX1_rounded_49 : decode cX1_rounded 49 = .ok (.getfield 36, 3) := by decide +kernel
theorem dX1_rounded_52 : decode cX1_rounded 52 = .ok (.isub, 1) := by decide +kernel
theorem dX1_rounded_53 : decode cX1_rounded 53 = .ok (.istore 7, 2) := by decide +kernel
theorem dX1_rounded_55 : decode cX1_rounded 55 = .ok (.iload 7, 2) := by decide +kernel
theorem dX1_rounded_57 : decode cX1_rounded 57 = .ok (.aload_n 0, 1) := by decide +kernel
theorem dX1_rounded_58 : decode cX1_rounded 58 = .ok (.getfield 33, 3) := by decide +kernel
theorem dX1_rounded_61 : decode cX1_rounded 61 = .ok (.iconst 1, 1) := by decide +kernel
theorem dX1_rounded_62 : decode cX1_rounded 62 = .ok (.isub, 1) := by decide +kernel
theorem dX1_rounded_63 : decode cX1_rounded 63 = .ok (.if_icmp .lt 13, 3) := by decide +kernel
theorem dX1_rounded_66 : decode cX1_rounded 66 = .ok (.aload_n 0, 1) := by decide +kernel
theorem dX1_rounded_67 : decode cX1_rounded 67 = .ok (.iload_n 1, 1) := by decide +kernel
theorem dX1_rounded_68 : decode cX1_rounded 68 = .ok (.aload_n 0, 1) := by decide +kernel
theorem dX1_rounded_69 : decode cX1_rounded 69 = .ok (.getfield 43, 3) := by decide +kernel
theorem dX1_rounded_72 : decode cX1_rounded 72 = .ok (.invokevirtual 91, 3) := by decide +kernel
theorem dX1_rounded_75 : decode cX1_rounded 75 = .ok (.lreturn, 1) := by decide +kernel
theorem dX1_rounded_76 : decode cX1_rounded 76 = .ok (.iload 7, 2) := by decide +kernel
theorem dX1_rounded_78 : decode cX1_rounded 78 = .ok (.i2l, 1) := by decide +kernel
theorem dX1_rounded_79 : decode cX1_rounded 79 = .ok (.aload_n 0, 1) := by decide +kernel
theorem dX1_rounded_80 : decode cX1_rounded 80 = .ok (.getfield 29, 3) := by decide +kernel
theorem dX1_rounded_83 : decode cX1_rounded 83 = .ok (.lshl, 1) := by decide +kernel
theorem dX1_rounded_84 : decode cX1_rounded 84 = .ok (.lload_n 2, 1) := by decide +kernel
theorem dX1_rounded_85 : decode cX1_rounded 85 = .ok (.iload 6, 2) := by decide +kernel
theorem dX1_rounded_87 : decode cX1_rounded 87 = .ok (.invokestatic 103, 3) := by decide +kernel
theorem dX1_rounded_90 : decode cX1_rounded 90 = .ok (.ladd, 1) := by decide +kernel
theorem dX1_rounded_91 : decode cX1_rounded 91 = .ok (.lstore 8, 2) := by decide +kernel
theorem dX1_rounded_93 : decode cX1_rounded 93 = .ok (.aload_n 0, 1) := by decide +kernel
theorem dX1_rounded_94 : decode cX1_rounded 94 = .ok (.iload_n 1, 1) := by decide +kernel
theorem dX1_rounded_95 : decode cX1_rounded 95 = .ok (.lload 8, 2) := by decide +kernel
theorem dX1_rounded_97 : decode cX1_rounded 97 = .ok (.invokevirtual 91, 3) := by decide +kernel
theorem dX1_rounded_100 : decode cX1_rounded 100 = .ok (.lreturn, 1) := by decide +kernel
theorem dX1_withoutLast_0 : decode cX1_withoutLast 0 = .ok (.iload_n 2, 1) := by decide +kernel
theorem dX1_withoutLast_1 : decode cX1_withoutLast 1 = .ok (.ifCond .gt 8, 3) := by decide +kernel
theorem dX1_withoutLast_4 : decode cX1_withoutLast 4 = .ok (.lload_n 0, 1) := by decide +kernel
theorem dX1_withoutLast_5 : decode cX1_withoutLast 5 = .ok (.iload_n 2, 1) := by decide +kernel
theorem dX1_withoutLast_6 : decode cX1_withoutLast 6 = .ok (.ineg, 1) := by decide +kernel
theorem dX1_withoutLast_7 : decode cX1_withoutLast 7 = .ok (.lshl, 1) := by decide +kernel
theorem dX1_withoutLast_8 : decode cX1_withoutLast 8 = .ok (.lreturn, 1) := by decide +kernel
theorem dX1_withoutLast_9 : decode cX1_withoutLast 9 = .ok (.iload_n 2, 1) := by decide +kernel
theorem dX1_withoutLast_10 : decode cX1_withoutLast 10 = .ok (.bipush 63, 2) := by decide +kernel
theorem dX1_withoutLast_12 : decode cX1_withoutLast 12 = .ok (.if_icmp .le 5, 3) := by decide +kernel
theorem dX1_withoutLast_15 : decode cX1_withoutLast 15 = .ok (.lconst 0, 1) := by decide +kernel
theorem dX1_withoutLast_16 : decode cX1_withoutLast 16 = .ok (.lreturn, 1) := by decide +kernel
theorem dX1_withoutLast_17 : decode cX1_withoutLast 17 = .ok (.lload_n 0, 1) := by decide +kernel
theorem dX1_withoutLast_18 : decode cX1_withoutLast 18 = .ok (.iload_n 2, 1) := by decide +kernel
theorem dX1_withoutLast_19 : decode cX1_withoutLast 19 = .ok (.lushr, 1) := by decide +kernel
theorem dX1_withoutLast_20 : decode cX1_withoutLast 20 = .ok (.lstore_n 3, 1) := by decide +kernel
theorem dX1_withoutLast_21 : decode cX1_withoutLast 21 = .ok (.lload_n 0, 1) := by decide +kernel
theorem dX1_withoutLast_22 : decode cX1_withoutLast 22 = .ok (.lconst 1, 1) := by decide +kernel
theorem dX1_withoutLast_23 : decode cX1_withoutLast 23 = .ok (.iload_n 2, 1) := by decide +kernel
theorem dX1_withoutLast_24 : decode cX1_withoutLast 24 = .ok (.lshl, 1) := by decide +kernel
theorem dX1_withoutLast_25 : decode cX1_withoutLast 25 = .ok (.lconst 1, 1) := by decide +kernel
theorem dX1_withoutLast_26 : decode cX1_withoutLast 26 = .ok (.lsub, 1) := by decide +kernel
theorem dX1_withoutLast_27 : decode cX1_withoutLast 27 = .ok (.land, 1) := by decide +kernel
theorem dX1_withoutLast_28 : decode cX1_withoutLast 28 = .ok (.lstore 5, 2) := by decide +kernel
theorem dX1_withoutLast_30 : decode cX1_withoutLast 30 = .ok (.lconst 1, 1) := by decide +kernel
theorem dX1_withoutLast_31 : decode cX1_withoutLast 31 = .ok (.iload_n 2, 1) := by decide +kernel
theorem dX1_withoutLast_32 : decode cX1_withoutLast 32 = .ok (.iconst 1, 1) := by decide +kernel
theorem dX1_withoutLast_33 : decode cX1_withoutLast 33 = .ok (.isub, 1) := by decide +kernel
theorem dX1_withoutLast_34 : decode cX1_withoutLast 34 = .ok (.lshl, 1) := by decide +kernel
theorem dX1_withoutLast_35 : decode cX1_withoutLast 35 = .ok (.lstore 7, 2) := by decide +kernel
theorem dX1_withoutLast_37 : decode cX1_withoutLast 37 = .ok (.lload 5, 2) := by decide +kernel
theorem dX1_withoutLast_39 : decode cX1_withoutLast 39 = .ok (.lload 7, 2) := by decide +kernel
theorem dX1_withoutLast_41 : decode cX1_withoutLast 41 = .ok (.lcmp, 1) := by decide +kernel
theorem dX1_withoutLast_42 : decode cX1_withoutLast 42 = .ok (.ifCond .gt 19, 3) := by decide +kernel
theorem dX1_withoutLast_45 : decode cX1_withoutLast 45 = .ok (.lload 5, 2) := by decide +kernel
theorem dX1_withoutLast_47 : decode cX1_withoutLast 47 = .ok (.lload 7, 2) := by decide +kernel
theorem dX1_withoutLast_49 : decode cX1_withoutLast 49 = .ok (.lcmp, 1) := by decide +kernel
theorem dX1_withoutLast_50 : decode cX1_withoutLast 50 = .ok (.ifCond .ne 15, 3) := by decide +kernel
theorem dX1_withoutLast_53 : decode cX1_withoutLast 53 = .ok (.lload_n 3, 1) := by decide +kernel
theorem dX1_withoutLast_54 : decode cX1_withoutLast 54 = .ok (.lconst 1, 1) := by decide +kernel
theorem dX1_withoutLast_55 : decode cX1_withoutLast 55 = .ok (.land, 1) := by decide +kernel
theorem dX1_withoutLast_56 : decode cX1_withoutLast 56 = .ok (.lconst 1, 1) := by decide +kernel
theorem dX1_withoutLast_57 : decode cX1_withoutLast 57 = .ok (.lcmp, 1) := by decide +kernel
theorem dX1_withoutLast_58 : decode cX1_withoutLast 58 = .ok (.ifCond .ne 7, 3) := by decide +kernel
theorem dX1_withoutLast_61 : decode cX1_withoutLast 61 = .ok (.iconst 1, 1) := by decide +kernel
theorem dX1_withoutLast_62 : decode cX1_withoutLast 62 = .ok (.goto 4, 3) := by decide +kernel
theorem dX1_withoutLast_65 : decode cX1_withoutLast 65 = .ok (.iconst 0, 1) := by decide +kernel
theorem dX1_withoutLast_66 : decode cX1_withoutLast 66 = .ok (.istore 9, 2) := by decide +kernel
theorem dX1_withoutLast_68 : decode cX1_withoutLast 68 = .ok (.iload 9, 2) := by decide +kernel
theorem dX1_withoutLast_70 : decode cX1_withoutLast 70 = .ok (.ifCond .eq 9, 3) := by decide +kernel
theorem dX1_withoutLast_73 : decode cX1_withoutLast 73 = .ok (.lload_n 3, 1) := by decide +kernel
theorem dX1_withoutLast_74 : decode cX1_withoutLast 74 = .ok (.lconst 1, 1) := by decide +kernel
theorem dX1_withoutLast_75 : decode cX1_withoutLast 75 = .ok (.ladd, 1) := by decide +kernel
theorem dX1_withoutLast_76 : decode cX1_withoutLast 76 = .ok (.goto 4, 3) := by decide +kernel
theorem dX1_withoutLast_79 : decode cX1_withoutLast 79 = .ok (.lload_n 3, 1) := by decide +kernel
theorem dX1_withoutLast_80 : decode cX1_withoutLast 80 = .ok (.lreturn, 1) := by decide +kernel
theorem dX2_acted_0 : decode cX2_acted 0 = .ok (.aload_n 0, 1) := by decide +kernel
theorem dX2_acted_1 : decode cX2_acted 1 = .ok (.lload_n 2, 1) := by decide +kernel
theorem dX2_acted_2 : decode cX2_acted 2 = .ok (.invokevirtual 11, 3) := by decide +kernel
theorem dX2_acted_5 : decode cX2_acted 5 = .ok (.ifCond .ne 19, 3) := by decide +kernel
theorem dX2_acted_8 : decode cX2_acted 8 = .ok (.iload_n 1, 1) := by decide +kernel
theorem dX2_acted_9 : decode cX2_acted 9 = .ok (.invokestatic 17, 3) := by decide +kernel
theorem dX2_acted_12 : decode cX2_acted 12 = .ok (.ifCond .eq 17, 3) := by decide +kernel
theorem dX2_acted_15 : decode cX2_acted 15 = .ok (.aload_n 0, 1) := by decide +kernel
theorem dX2_acted_16 : decode cX2_acted 16 = .ok (.lload 4, 2) := by decide +kernel
theorem dX2_acted_18 : decode cX2_acted 18 = .ok (.invokevirtual 11, 3) := by decide +kernel
theorem dX2_acted_21 : decode cX2_acted 21 = .ok (.ifCond .eq 8, 3) := by decide +kernel
theorem dX2_acted_24 : decode cX2_acted 24 = .ok (.aload_n 0, 1) := by decide +kernel
theorem dX2_acted_25 : decode cX2_acted 25 = .ok (.getfield 21, 3) := by decide +kernel
theorem dX2_acted_28 : decode cX2_acted 28 = .ok (.lreturn, 1) := by decide +kernel
theorem dX2_acted_29 : decode cX2_acted 29 = .ok (.iload_n 1, 1) := by decide +kernel
theorem dX2_acted_30 : decode cX2_acted 30 = .ok (.tableswitch 179 0 12 #[66, 72, 80, 88, 88, 88, 95, 123, 139, 147, 155, 163, 171], 66) := by decide +kernel
theorem dX2_acted_96 : decode cX2_acted 96 = .ok (.aload_n 0, 1) := by decide +kernel
theorem dX2_acted_97 : decode cX2_acted 97 = .ok (.lload_n 2, 1) := by decide +kernel
theorem dX2_acted_98 : decode cX2_acted 98 = .ok (.invokevirtual 25, 3) := by decide +kernel
theorem dX2_acted_101 : decode cX2_acted 101 = .ok (.lreturn, 1) := by decide +kernel
theorem dX2_acted_102 : decode cX2_acted 102 = .ok (.aload_n 0, 1) := by decide +kernel
theorem dX2_acted_103 : decode cX2_acted 103 = .ok (.lload_n 2, 1) := by decide +kernel
theorem dX2_acted_104 : decode cX2_acted 104 = .ok (.lload 4, 2) := by decide +kernel
theorem dX2_acted_106 : decode cX2_acted 106 = .ok (.invokevirtual 29, 3) := by decide +kernel
theorem dX2_acted_109 : decode cX2_acted 109 = .ok (.lreturn, 1) := by decide +kernel
theorem dX2_acted_110 : decode cX2_acted 110 = .ok (.aload_n 0, 1) := by decide +kernel
theorem dX2_acted_111 : decode cX2_acted 111 = .ok (.lload_n 2, 1) := by decide +kernel
theorem dX2_acted_112 : decode cX2_acted 112 = .ok (.lload 4, 2) := by decide +kernel
theorem dX2_acted_114 : decode cX2_acted 114 = .ok (.invokevirtual 33, 3) := by decide +kernel
theorem dX2_acted_117 : decode cX2_acted 117 = .ok (.lreturn, 1) := by decide +kernel
theorem dX2_acted_118 : decode cX2_acted 118 = .ok (.aload_n 0, 1) := by decide +kernel
theorem dX2_acted_119 : decode cX2_acted 119 = .ok (.lload_n 2, 1) := by decide +kernel
theorem dX2_acted_120 : decode cX2_acted 120 = .ok (.iload_n 1, 1) := by decide +kernel
theorem dX2_acted_121 : decode cX2_acted 121 = .ok (.invokestatic 36, 3) := by decide +kernel
theorem dX2_acted_124 : decode cX2_acted 124 = .ok (.lreturn, 1) := by decide +kernel
theorem dX2_acted_125 : decode cX2_acted 125 = .ok (.aload_n 0, 1) := by decide +kernel
theorem dX2_acted_126 : decode cX2_acted 126 = .ok (.lload_n 2, 1) := by decide +kernel
theorem dX2_acted_127 : decode cX2_acted 127 = .ok (.invokevirtual 25, 3) := by decide +kernel
theorem dX2_acted_130 : decode cX2_acted 130 = .ok (.lconst 0, 1) := by decide +kernel
theorem dX2_acted_131 : decode cX2_acted 131 = .ok (.lcmp, 1) := by decide +kernel
theorem dX2_acted_132 : decode cX2_acted 132 = .ok (.ifCond .ne 7, 3) := by decide +kernel
theorem dX2_acted_135 : decode cX2_acted 135 = .ok (.lload_n 2, 1) := by decide +kernel
theorem dX2_acted_136 : decode cX2_acted 136 = .ok (.goto 16, 3) := by decide +kernel
theorem dX2_acted_139 : decode cX2_acted 139 = .ok (.aload_n 0, 1) := by decide +kernel
theorem dX2_acted_140 : decode cX2_acted 140 = .ok (.aload_n 0, 1) := by decide +kernel
theorem dX2_acted_141 : decode cX2_acted 141 = .ok (.lload_n 2, 1) := by decide +kernel
theorem dX2_acted_142 : decode cX2_acted 142 = .ok (.invokevirtual 40, 3) := by decide +kernel
theorem dX2_acted_145 : decode cX2_acted 145 = .ok (.aload_n 0, 1) := by decide +kernel
theorem dX2_acted_146 : decode cX2_acted 146 = .ok (.invokevirtual 43, 3) := by decide +kernel
theorem dX2_acted_149 : decode cX2_acted 149 = .ok (.invokevirtual 47, 3) := by decide +kernel
theorem dX2_acted_152 : decode cX2_acted 152 = .ok (.lreturn, 1) := by decide +kernel
theorem dX2_acted_153 : decode cX2_acted 153 = .ok (.aload_n 0, 1) := by decide +kernel
theorem dX2_acted_154 : decode cX2_acted 154 = .ok (.aload_n 0, 1) := by decide +kernel
theorem dX2_acted_155 : decode cX2_acted 155 = .ok (.lload 4, 2) := by decide +kernel
theorem dX2_acted_157 : decode cX2_acted 157 = .ok (.invokevirtual 40, 3) := by decide +kernel
theorem dX2_acted_160 : decode cX2_acted 160 = .ok (.aload_n 0, 1) := by decide +kernel
theorem dX2_acted_161 : decode cX2_acted 161 = .ok (.lload_n 2, 1) := by decide +kernel
theorem dX2_acted_162 : decode cX2_acted 162 = .ok (.invokevirtual 25, 3) := by decide +kernel
theorem dX2_acted_165 : decode cX2_acted 165 = .ok (.invokevirtual 47, 3) := by decide +kernel
theorem dX2_acted_168 : decode cX2_acted 168 = .ok (.lreturn, 1) := by decide +kernel
theorem dX2_acted_169 : decode cX2_acted 169 = .ok (.aload_n 0, 1) := by decide +kernel
theorem dX2_acted_170 : decode cX2_acted 170 = .ok (.lload_n 2, 1) := by decide +kernel
theorem dX2_acted_171 : decode cX2_acted 171 = .ok (.lload 4, 2) := by decide +kernel
theorem dX2_acted_173 : decode cX2_acted 173 = .ok (.invokestatic 51, 3) := by decide +kernel
theorem dX2_acted_176 : decode cX2_acted 176 = .ok (.lreturn, 1) := by decide +kernel
theorem dX2_acted_177 : decode cX2_acted 177 = .ok (.aload_n 0, 1) := by decide +kernel
theorem dX2_acted_178 : decode cX2_acted 178 = .ok (.lload_n 2, 1) := by decide +kernel
theorem dX2_acted_179 : decode cX2_acted 179 = .ok (.lload 4, 2) := by decide +kernel
theorem dX2_acted_181 : decode cX2_acted 181 = .ok (.invokestatic 55, 3) := by decide +kernel
theorem dX2_acted_184 : decode cX2_acted 184 = .ok (.lreturn, 1) := by decide +kernel
theorem dX2_acted_185 : decode cX2_acted 185 = .ok (.aload_n 0, 1) := by decide +kernel
theorem dX2_acted_186 : decode cX2_acted 186 = .ok (.lload_n 2, 1) := by decide +kernel
theorem dX2_acted_187 : decode cX2_acted 187 = .ok (.lload 4, 2) := by decide +kernel
theorem dX2_acted_189 : decode cX2_acted 189 = .ok (.invokestatic 58, 3) := by decide +kernel
theorem dX2_acted_192 : decode cX2_acted 192 = .ok (.lreturn, 1) := by decide +kernel
theorem dX2_acted_193 : decode cX2_acted 193 = .ok (.aload_n 0, 1) := by decide +kernel
theorem dX2_acted_194 : decode cX2_acted 194 = .ok (.lload_n 2, 1) := by decide +kernel
theorem dX2_acted_195 : decode cX2_acted 195 = .ok (.lload 4, 2) := by decide +kernel
theorem dX2_acted_197 : decode cX2_acted 197 = .ok (.invokestatic 61, 3) := by decide +kernel
theorem dX2_acted_200 : decode cX2_acted 200 = .ok (.lreturn, 1) := by decide +kernel
theorem dX2_acted_201 : decode cX2_acted 201 = .ok (.aload_n 0, 1) := by decide +kernel
theorem dX2_acted_202 : decode cX2_acted 202 = .ok (.lload_n 2, 1) := by decide +kernel
theorem dX2_acted_203 : decode cX2_acted 203 = .ok (.lload 4, 2) := by decide +kernel
theorem dX2_acted_205 : decode cX2_acted 205 = .ok (.invokestatic 64, 3) := by decide +kernel
theorem dX2_acted_208 : decode cX2_acted 208 = .ok (.lreturn, 1) := by decide +kernel
theorem dX2_acted_209 : decode cX2_acted 209 = .ok (.aload_n 0, 1) := by decide +kernel
theorem dX2_acted_210 : decode cX2_acted 210 = .ok (.lload_n 2, 1) := by decide +kernel
theorem dX2_acted_211 : decode cX2_acted 211 = .ok (.invokevirtual 67, 3) := by decide +kernel
theorem dX2_acted_214 : decode cX2_acted 214 = .ok (.lreturn, 1) := by decide +kernel
theorem dX2_namesSecond_0 : decode cX2_namesSecond 0 = .ok (.iload_n 0, 1) := by decide +kernel
theorem dX2_namesSecond_1 : decode cX2_namesSecond 1 = .ok (.iconst 1, 1) := by decide +kernel
theorem dX2_namesSecond_2 : decode cX2_namesSecond 2 = .ok (.if_icmp .eq 20, 3) := by decide +kernel
theorem dX2_namesSecond_5 : decode cX2_namesSecond 5 = .ok (.iload_n 0, 1) := by decide +kernel
theorem dX2_namesSecond_6 : decode cX2_namesSecond 6 = .ok (.iconst 2, 1) := by decide +kernel
theorem dX2_namesSecond_7 : decode cX2_namesSecond 7 = .ok (.if_icmp .eq 15, 3) := by decide +kernel
theorem dX2_namesSecond_10 : decode cX2_namesSecond 10 = .ok (.iload_n 0, 1) := by decide +kernel
theorem dX2_namesSecond_11 : decode cX2_namesSecond 11 = .ok (.bipush 7, 2) := by decide +kernel
theorem dX2_namesSecond_13 : decode cX2_namesSecond 13 = .ok (.if_icmp .lt 13, 3) := by decide +kernel
theorem dX2_namesSecond_16 : decode cX2_namesSecond 16 = .ok (.iload_n 0, 1) := by decide +kernel
theorem dX2_namesSecond_17 : decode cX2_namesSecond 17 = .ok (.bipush 12, 2) := by decide +kernel
theorem dX2_namesSecond_19 : decode cX2_namesSecond 19 = .ok (.if_icmp .gt 7, 3) := by decide +kernel
theorem dX2_namesSecond_22 : decode cX2_namesSecond 22 = .ok (.iconst 1, 1) := by decide +kernel
theorem dX2_namesSecond_23 : decode cX2_namesSecond 23 = .ok (.goto 4, 3) := by decide +kernel
theorem dX2_namesSecond_26 : decode cX2_namesSecond 26 = .ok (.iconst 0, 1) := by decide +kernel
theorem dX2_namesSecond_27 : decode cX2_namesSecond 27 = .ok (.ireturn, 1) := by decide +kernel
theorem dX2_ofWhole_0 : decode cX2_ofWhole 0 = .ok (.aload_n 0, 1) := by decide +kernel
theorem dX2_ofWhole_1 : decode cX2_ofWhole 1 = .ok (.lload_n 1, 1) := by decide +kernel
theorem dX2_ofWhole_2 : decode cX2_ofWhole 2 = .ok (.lconst 0, 1) := by decide +kernel
theorem dX2_ofWhole_3 : decode cX2_ofWhole 3 = .ok (.lcmp, 1) := by decide +kernel
theorem dX2_ofWhole_4 : decode cX2_ofWhole 4 = .ok (.ifCond .ge 7, 3) := by decide +kernel
theorem dX2_ofWhole_7 : decode cX2_ofWhole 7 = .ok (.iconst 1, 1) := by decide +kernel
theorem dX2_ofWhole_8 : decode cX2_ofWhole 8 = .ok (.goto 4, 3) := by decide +kernel
theorem dX2_ofWhole_11 : decode cX2_ofWhole 11 = .ok (.iconst 0, 1) := by decide +kernel
theorem dX2_ofWhole_12 : decode cX2_ofWhole 12 = .ok (.lload_n 1, 1) := by decide +kernel
theorem dX2_ofWhole_13 : decode cX2_ofWhole 13 = .ok (.lconst 0, 1) := by decide +kernel
theorem dX2_ofWhole_14 : decode cX2_ofWhole 14 = .ok (.lcmp, 1) := by decide +kernel
theorem dX2_ofWhole_15 : decode cX2_ofWhole 15 = .ok (.ifCond .ge 8, 3) := by decide +kernel
theorem dX2_ofWhole_18 : decode cX2_ofWhole 18 = .ok (.lload_n 1, 1) := by decide +kernel
theorem dX2_ofWhole_19 : decode cX2_ofWhole 19 = .ok (.lneg, 1) := by decide +kernel
theorem dX2_ofWhole_20 : decode cX2_ofWhole 20 = .ok (.goto 4, 3) := by decide +kernel
theorem dX2_ofWhole_23 : decode cX2_ofWhole 23 = .ok (.lload_n 1, 1) := by decide +kernel
theorem dX2_ofWhole_24 : decode cX2_ofWhole 24 = .ok (.iconst 0, 1) := by decide +kernel
theorem dX2_ofWhole_25 : decode cX2_ofWhole 25 = .ok (.invokevirtual 70, 3) := by decide +kernel
theorem dX2_ofWhole_28 : decode cX2_ofWhole 28 = .ok (.lreturn, 1) := by decide +kernel
theorem dX2_turned_0 : decode cX2_turned 0 = .ok (.aload_n 0, 1) := by decide +kernel
theorem dX2_turned_1 : decode cX2_turned 1 = .ok (.lload_n 1, 1) := by decide +kernel
theorem dX2_turned_2 : decode cX2_turned 2 = .ok (.invokevirtual 11, 3) := by decide +kernel
theorem dX2_turned_5 : decode cX2_turned 5 = .ok (.ifCond .eq 8, 3) := by decide +kernel
theorem dX2_turned_8 : decode cX2_turned 8 = .ok (.aload_n 3, 1) := by decide +kernel
theorem dX2_turned_9 : decode cX2_turned 9 = .ok (.getfield 21, 3) := by decide +kernel
theorem dX2_turned_12 : decode cX2_turned 12 = .ok (.lreturn, 1) := by decide +kernel
theorem dX2_turned_13 : decode cX2_turned 13 = .ok (.aload_n 0, 1) := by decide +kernel
theorem dX2_turned_14 : decode cX2_turned 14 = .ok (.lload_n 1, 1) := by decide +kernel
theorem dX2_turned_15 : decode cX2_turned 15 = .ok (.invokevirtual 40, 3) := by decide +kernel
theorem dX2_turned_18 : decode cX2_turned 18 = .ok (.istore 4, 2) := by decide +kernel
theorem dX2_turned_20 : decode cX2_turned 20 = .ok (.aload_n 0, 1) := by decide +kernel
theorem dX2_turned_21 : decode cX2_turned 21 = .ok (.lload_n 1, 1) := by decide +kernel
theorem dX2_turned_22 : decode cX2_turned 22 = .ok (.invokevirtual 74, 3) := by decide +kernel
theorem dX2_turned_25 : decode cX2_turned 25 = .ok (.ifCond .eq 14, 3) := by decide +kernel
theorem dX2_turned_28 : decode cX2_turned 28 = .ok (.aload_n 3, 1) := by decide +kernel
theorem dX2_turned_29 : decode cX2_turned 29 = .ok (.iload 4, 2) := by decide +kernel
theorem dX2_turned_31 : decode cX2_turned 31 = .ok (.aload_n 3, 1) := by decide +kernel
theorem dX2_turned_32 : decode cX2_turned 32 = .ok (.getfield 77, 3) := by decide +kernel
theorem dX2_turned_35 : decode cX2_turned 35 = .ok (.invokevirtual 47, 3) := by decide +kernel
theorem dX2_turned_38 : decode cX2_turned 38 = .ok (.lreturn, 1) := by decide +kernel
theorem dX2_turned_39 : decode cX2_turned 39 = .ok (.aload_n 3, 1) := by decide +kernel
theorem dX2_turned_40 : decode cX2_turned 40 = .ok (.iload 4, 2) := by decide +kernel
theorem dX2_turned_42 : decode cX2_turned 42 = .ok (.aload_n 0, 1) := by decide +kernel
theorem dX2_turned_43 : decode cX2_turned 43 = .ok (.lload_n 1, 1) := by decide +kernel
theorem dX2_turned_44 : decode cX2_turned 44 = .ok (.invokevirtual 80, 3) := by decide +kernel
theorem dX2_turned_47 : decode cX2_turned 47 = .ok (.aload_n 0, 1) := by decide +kernel
theorem dX2_turned_48 : decode cX2_turned 48 = .ok (.lload_n 1, 1) := by decide +kernel
theorem dX2_turned_49 : decode cX2_turned 49 = .ok (.invokevirtual 83, 3) := by decide +kernel
theorem dX2_turned_52 : decode cX2_turned 52 = .ok (.invokevirtual 70, 3) := by decide +kernel
theorem dX2_turned_55 : decode cX2_turned 55 = .ok (.lreturn, 1) := by decide +kernel
theorem dX2_cutOff_0 : decode cX2_cutOff 0 = .ok (.aload_n 0, 1) := by decide +kernel
theorem dX2_cutOff_1 : decode cX2_cutOff 1 = .ok (.lload_n 1, 1) := by decide +kernel
theorem dX2_cutOff_2 : decode cX2_cutOff 2 = .ok (.invokevirtual 11, 3) := by decide +kernel
theorem dX2_cutOff_5 : decode cX2_cutOff 5 = .ok (.ifCond .eq 5, 3) := by decide +kernel
theorem dX2_cutOff_8 : decode cX2_cutOff 8 = .ok (.lconst 0, 1) := by decide +kernel
theorem dX2_cutOff_9 : decode cX2_cutOff 9 = .ok (.lreturn, 1) := by decide +kernel
theorem dX2_cutOff_10 : decode cX2_cutOff 10 = .ok (.aload_n 0, 1) := by decide +kernel
theorem dX2_cutOff_11 : decode cX2_cutOff 11 = .ok (.lload_n 1, 1) := by decide +kernel
theorem dX2_cutOff_12 : decode cX2_cutOff 12 = .ok (.invokevirtual 40, 3) := by decide +kernel
theorem dX2_cutOff_15 : decode cX2_cutOff 15 = .ok (.istore_n 3, 1) := by decide +kernel
theorem dX2_cutOff_16 : decode cX2_cutOff 16 = .ok (.aload_n 0, 1) := by decide +kernel
theorem dX2_cutOff_17 : decode cX2_cutOff 17 = .ok (.lload_n 1, 1) := by decide +kernel
theorem dX2_cutOff_18 : decode cX2_cutOff 18 = .ok (.invokevirtual 80, 3) := by decide +kernel
theorem dX2_cutOff_21 : decode cX2_cutOff 21 = .ok (.lstore 4, 2) := by decide +kernel
theorem dX2_cutOff_23 : decode cX2_cutOff 23 = .ok (.aload_n 0, 1) := by decide +kernel
theorem dX2_cutOff_24 : decode cX2_cutOff 24 = .ok (.lload_n 1, 1) := by decide +kernel
theorem dX2_cutOff_25 : decode cX2_cutOff 25 = .ok (.invokevirtual 83, 3) := by decide +kernel
theorem dX2_cutOff_28 : decode cX2_cutOff 28 = .ok (.istore 6, 2) := by decide +kernel
theorem dX2_cutOff_30 : decode cX2_cutOff 30 = .ok (.iload 6, 2) := by decide +kernel
theorem dX2_cutOff_32 : decode cX2_cutOff 32 = .ok (.ifCond .ge 29, 3) := by decide +kernel
theorem dX2_cutOff_35 : decode cX2_cutOff 35 = .ok (.lload 4, 2) := by decide +kernel
theorem dX2_cutOff_37 : decode cX2_cutOff 37 = .ok (.iload 6, 2) := by decide +kernel
theorem dX2_cutOff_39 : decode cX2_cutOff 39 = .ok (.ineg, 1) := by decide +kernel
theorem dX2_cutOff_40 : decode cX2_cutOff 40 = .ok (.bipush 63, 2) := by decide +kernel
theorem dX2_cutOff_42 : decode cX2_cutOff 42 = .ok (.invokestatic 87, 3) := by decide +kernel
theorem dX2_cutOff_45 : decode cX2_cutOff 45 = .ok (.lushr, 1) := by decide +kernel
theorem dX2_cutOff_46 : decode cX2_cutOff 46 = .ok (.lstore 7, 2) := by decide +kernel
theorem dX2_cutOff_48 : decode cX2_cutOff 48 = .ok (.iload_n 3, 1) := by decide +kernel
theorem dX2_cutOff_49 : decode cX2_cutOff 49 = .ok (.ifCond .eq 9, 3) := by decide +kernel
theorem dX2_cutOff_52 : decode cX2_cutOff 52 = .ok (.lload 7, 2) := by decide +kernel
theorem dX2_cutOff_54 : decode cX2_cutOff 54 = .ok (.lneg, 1) := by decide +kernel
theorem dX2_cutOff_55 : decode cX2_cutOff 55 = .ok (.goto 5, 3) := by decide +kernel
theorem dX2_cutOff_58 : decode cX2_cutOff 58 = .ok (.lload 7, 2) := by decide +kernel
theorem dX2_cutOff_60 : decode cX2_cutOff 60 = .ok (.lreturn, 1) := by decide +kernel
theorem dX2_cutOff_61 : decode cX2_cutOff 61 = .ok (.iload 6, 2) := by decide +kernel
theorem dX2_cutOff_63 : decode cX2_cutOff 63 = .ok (.lload 4, 2) := by decide +kernel
theorem dX2_cutOff_65 : decode cX2_cutOff 65 = .ok (.invokestatic 93, 3) := by decide +kernel
theorem dX2_cutOff_68 : decode cX2_cutOff 68 = .ok (.if_icmp .lt 17, 3) := by decide +kernel
theorem dX2_cutOff_71 : decode cX2_cutOff 71 = .ok (.iload_n 3, 1) := by decide +kernel
theorem dX2_cutOff_72 : decode cX2_cutOff 72 = .ok (.ifCond .eq 9, 3) := by decide +kernel
theorem dX2_cutOff_75 : decode cX2_cutOff 75 = .ok (.ldc2_w 98, 3) := by decide +kernel
theorem dX2_cutOff_78 : decode cX2_cutOff 78 = .ok (.goto 6, 3) := by decide +kernel
theorem dX2_cutOff_81 : decode cX2_cutOff 81 = .ok (.ldc2_w 100, 3) := by decide +kernel
theorem dX2_cutOff_84 : decode cX2_cutOff 84 = .ok (.lreturn, 1) := by decide +kernel
theorem dX2_cutOff_85 : decode cX2_cutOff 85 = .ok (.lload 4, 2) := by decide +kernel
theorem dX2_cutOff_87 : decode cX2_cutOff 87 = .ok (.iload 6, 2) := by decide +kernel
theorem dX2_cutOff_89 : decode cX2_cutOff 89 = .ok (.lshl, 1) := by decide +kernel
theorem dX2_cutOff_90 : decode cX2_cutOff 90 = .ok (.lstore 7, 2) := by decide +kernel
theorem dX2_cutOff_92 : decode cX2_cutOff 92 = .ok (.iload_n 3, 1) := by decide +kernel
theorem dX2_cutOff_93 : decode cX2_cutOff 93 = .ok (.ifCond .eq 9, 3) := by decide +kernel
theorem dX2_cutOff_96 : decode cX2_cutOff 96 = .ok (.lload 7, 2) := by decide +kernel
theorem dX2_cutOff_98 : decode cX2_cutOff 98 = .ok (.lneg, 1) := by decide +kernel
theorem dX2_cutOff_99 : decode cX2_cutOff 99 = .ok (.goto 5, 3) := by decide +kernel
theorem dX2_cutOff_102 : decode cX2_cutOff 102 = .ok (.lload 7, 2) := by decide +kernel
theorem dX2_cutOff_104 : decode cX2_cutOff 104 = .ok (.lreturn, 1) := by decide +kernel
theorem dX2_toWhole_0 : decode cX2_toWhole 0 = .ok (.aload_n 0, 1) := by decide +kernel
theorem dX2_toWhole_1 : decode cX2_toWhole 1 = .ok (.lload_n 1, 1) := by decide +kernel
theorem dX2_toWhole_2 : decode cX2_toWhole 2 = .ok (.invokevirtual 83, 3) := by decide +kernel
theorem dX2_toWhole_5 : decode cX2_toWhole 5 = .ok (.istore 4, 2) := by decide +kernel
theorem dX2_toWhole_7 : decode cX2_toWhole 7 = .ok (.aload_n 0, 1) := by decide +kernel
theorem dX2_toWhole_8 : decode cX2_toWhole 8 = .ok (.lload_n 1, 1) := by decide +kernel
theorem dX2_toWhole_9 : decode cX2_toWhole 9 = .ok (.invokevirtual 74, 3) := by decide +kernel
theorem dX2_toWhole_12 : decode cX2_toWhole 12 = .ok (.ifCond .ne 8, 3) := by decide +kernel
theorem dX2_toWhole_15 : decode cX2_toWhole 15 = .ok (.iload 4, 2) := by decide +kernel
theorem dX2_toWhole_17 : decode cX2_toWhole 17 = .ok (.ifCond .lt 5, 3) := by decide +kernel
theorem dX2_toWhole_20 : decode cX2_toWhole 20 = .ok (.lload_n 1, 1) := by decide +kernel
theorem dX2_toWhole_21 : decode cX2_toWhole 21 = .ok (.lreturn, 1) := by decide +kernel
theorem dX2_toWhole_22 : decode cX2_toWhole 22 = .ok (.aload_n 0, 1) := by decide +kernel
theorem dX2_toWhole_23 : decode cX2_toWhole 23 = .ok (.lload_n 1, 1) := by decide +kernel
theorem dX2_toWhole_24 : decode cX2_toWhole 24 = .ok (.invokevirtual 40, 3) := by decide +kernel
theorem dX2_toWhole_27 : decode cX2_toWhole 27 = .ok (.istore 5, 2) := by decide +kernel
theorem dX2_toWhole_29 : decode cX2_toWhole 29 = .ok (.aload_n 0, 1) := by decide +kernel
theorem dX2_toWhole_30 : decode cX2_toWhole 30 = .ok (.lload_n 1, 1) := by decide +kernel
theorem dX2_toWhole_31 : decode cX2_toWhole 31 = .ok (.invokevirtual 80, 3) := by decide +kernel
theorem dX2_toWhole_34 : decode cX2_toWhole 34 = .ok (.lstore 6, 2) := by decide +kernel
theorem dX2_toWhole_36 : decode cX2_toWhole 36 = .ok (.iload 4, 2) := by decide +kernel
theorem dX2_toWhole_38 : decode cX2_toWhole 38 = .ok (.ineg, 1) := by decide +kernel
theorem dX2_toWhole_39 : decode cX2_toWhole 39 = .ok (.bipush 62, 2) := by decide +kernel
theorem dX2_toWhole_41 : decode cX2_toWhole 41 = .ok (.invokestatic 87, 3) := by decide +kernel
theorem dX2_toWhole_44 : decode cX2_toWhole 44 = .ok (.istore 8, 2) := by decide +kernel
theorem dX2_toWhole_46 : decode cX2_toWhole 46 = .ok (.lload 6, 2) := by decide +kernel
theorem dX2_toWhole_48 : decode cX2_toWhole 48 = .ok (.iload 8, 2) := by decide +kernel
theorem dX2_toWhole_50 : decode cX2_toWhole 50 = .ok (.lushr, 1) := by decide +kernel
theorem dX2_toWhole_51 : decode cX2_toWhole 51 = .ok (.lstore 9, 2) := by decide +kernel
theorem dX2_toWhole_53 : decode cX2_toWhole 53 = .ok (.lload 6, 2) := by decide +kernel
theorem dX2_toWhole_55 : decode cX2_toWhole 55 = .ok (.lload 9, 2) := by decide +kernel
theorem dX2_toWhole_57 : decode cX2_toWhole 57 = .ok (.iload 8, 2) := by decide +kernel
theorem dX2_toWhole_59 : decode cX2_toWhole 59 = .ok (.lshl, 1) := by decide +kernel
theorem dX2_toWhole_60 : decode cX2_toWhole 60 = .ok (.lsub, 1) := by decide +kernel
theorem dX2_toWhole_61 : decode cX2_toWhole 61 = .ok (.lstore 11, 2) := by decide +kernel
theorem dX2_toWhole_63 : decode cX2_toWhole 63 = .ok (.iload_n 3, 1) := by decide +kernel
theorem dX2_toWhole_64 : decode cX2_toWhole 64 = .ok (.iconst 5, 1) := by decide +kernel
theorem dX2_toWhole_65 : decode cX2_toWhole 65 = .ok (.if_icmp .ne 46, 3) := by decide +kernel
theorem dX2_toWhole_68 : decode cX2_toWhole 68 = .ok (.lconst 1, 1) := by decide +kernel
theorem dX2_toWhole_69 : decode cX2_toWhole 69 = .ok (.iload 8, 2) := by decide +kernel
theorem dX2_toWhole_71 : decode cX2_toWhole 71 = .ok (.iconst 1, 1) := by decide +kernel
theorem dX2_toWhole_72 : decode cX2_toWhole 72 = .ok (.isub, 1) := by decide +kernel
theorem dX2_toWhole_73 : decode cX2_toWhole 73 = .ok (.lshl, 1) := by decide +kernel
theorem dX2_toWhole_74 : decode cX2_toWhole 74 = .ok (.lstore 14, 2) := by decide +kernel
theorem dX2_toWhole_76 : decode cX2_toWhole 76 = .ok (.lload 11, 2) := by decide +kernel
theorem dX2_toWhole_78 : decode cX2_toWhole 78 = .ok (.lload 14, 2) := by decide +kernel
theorem dX2_toWhole_80 : decode cX2_toWhole 80 = .ok (.lcmp, 1) := by decide +kernel
theorem dX2_toWhole_81 : decode cX2_toWhole 81 = .ok (.ifCond .gt 20, 3) := by decide +kernel
theorem dX2_toWhole_84 : decode cX2_toWhole 84 = .ok (.lload 11, 2) := by decide +kernel
theorem dX2_toWhole_86 : decode cX2_toWhole 86 = .ok (.lload 14, 2) := by decide +kernel
theorem dX2_toWhole_88 : decode cX2_toWhole 88 = .ok (.lcmp, 1) := by decide +kernel
theorem dX2_toWhole_89 : decode cX2_toWhole 89 = .ok (.ifCond .ne 16, 3) := by decide +kernel
theorem dX2_toWhole_92 : decode cX2_toWhole 92 = .ok (.lload 9, 2) := by decide +kernel
theorem dX2_toWhole_94 : decode cX2_toWhole 94 = .ok (.lconst 1, 1) := by decide +kernel
theorem dX2_toWhole_95 : decode cX2_toWhole 95 = .ok (.land, 1) := by decide +kernel
theorem dX2_toWhole_96 : decode cX2_toWhole 96 = .ok (.lconst 1, 1) := by decide +kernel
theorem dX2_toWhole_97 : decode cX2_toWhole 97 = .ok (.lcmp, 1) := by decide +kernel
theorem dX2_toWhole_98 : decode cX2_toWhole 98 = .ok (.ifCond .ne 7, 3) := by decide +kernel
theorem dX2_toWhole_101 : decode cX2_toWhole 101 = .ok (.iconst 1, 1) := by decide +kernel
theorem dX2_toWhole_102 : decode cX2_toWhole 102 = .ok (.goto 4, 3) := by decide +kernel
theorem dX2_toWhole_105 : decode cX2_toWhole 105 = .ok (.iconst 0, 1) := by decide +kernel
theorem dX2_toWhole_106 : decode cX2_toWhole 106 = .ok (.istore 13, 2) := by decide +kernel
theorem dX2_toWhole_108 : decode cX2_toWhole 108 = .ok (.goto 32, 3) := by decide +kernel
theorem dX2_toWhole_111 : decode cX2_toWhole 111 = .ok (.lload 11, 2) := by decide +kernel
theorem dX2_toWhole_113 : decode cX2_toWhole 113 = .ok (.lconst 0, 1) := by decide +kernel
theorem dX2_toWhole_114 : decode cX2_toWhole 114 = .ok (.lcmp, 1) := by decide +kernel
theorem dX2_toWhole_115 : decode cX2_toWhole 115 = .ok (.ifCond .eq 22, 3) := by decide +kernel
theorem dX2_toWhole_118 : decode cX2_toWhole 118 = .ok (.iload 5, 2) := by decide +kernel
theorem dX2_toWhole_120 : decode cX2_toWhole 120 = .ok (.iload_n 3, 1) := by decide +kernel
theorem dX2_toWhole_121 : decode cX2_toWhole 121 = .ok (.iconst 3, 1) := by decide +kernel
theorem dX2_toWhole_122 : decode cX2_toWhole 122 = .ok (.if_icmp .ne 7, 3) := by decide +kernel
theorem dX2_toWhole_125 : decode cX2_toWhole 125 = .ok (.iconst 1, 1) := by decide +kernel
theorem dX2_toWhole_126 : decode cX2_toWhole 126 = .ok (.goto 4, 3) := by decide +kernel
theorem dX2_toWhole_129 : decode cX2_toWhole 129 = .ok (.iconst 0, 1) := by decide +kernel
theorem dX2_toWhole_130 : decode cX2_toWhole 130 = .ok (.if_icmp .ne 7, 3) := by decide +kernel
theorem dX2_toWhole_133 : decode cX2_toWhole 133 = .ok (.iconst 1, 1) := by decide +kernel
theorem dX2_toWhole_134 : decode cX2_toWhole 134 = .ok (.goto 4, 3) := by decide +kernel
theorem dX2_toWhole_137 : decode cX2_toWhole 137 = .ok (.iconst 0, 1) := by decide +kernel
theorem dX2_toWhole_138 : decode cX2_toWhole 138 = .ok (.istore 13, 2) := by decide +kernel
theorem dX2_toWhole_140 : decode cX2_toWhole 140 = .ok (.aload_n 0, 1) := by decide +kernel
theorem dX2_toWhole_141 : decode cX2_toWhole 141 = .ok (.iload 5, 2) := by decide +kernel
theorem dX2_toWhole_143 : decode cX2_toWhole 143 = .ok (.iload 13, 2) := by decide +kernel
theorem dX2_toWhole_145 : decode cX2_toWhole 145 = .ok (.ifCond .eq 10, 3) := by decide +kernel
theorem dX2_toWhole_148 : decode cX2_toWhole 148 = .ok (.lload 9, 2) := by decide +kernel
theorem dX2_toWhole_150 : decode cX2_toWhole 150 = .ok (.lconst 1, 1) := by decide +kernel
theorem dX2_toWhole_151 : decode cX2_toWhole 151 = .ok (.ladd, 1) := by decide +kernel
theorem dX2_toWhole_152 : decode cX2_toWhole 152 = .ok (.goto 5, 3) := by decide +kernel
theorem dX2_toWhole_155 : decode cX2_toWhole 155 = .ok (.lload 9, 2) := by decide +kernel
theorem dX2_toWhole_157 : decode cX2_toWhole 157 = .ok (.iconst 0, 1) := by decide +kernel
theorem dX2_toWhole_158 : decode cX2_toWhole 158 = .ok (.invokevirtual 70, 3) := by decide +kernel
theorem dX2_toWhole_161 : decode cX2_toWhole 161 = .ok (.lreturn, 1) := by decide +kernel
theorem dX2_minus_0 : decode cX2_minus 0 = .ok (.aload_n 0, 1) := by decide +kernel
theorem dX2_minus_1 : decode cX2_minus 1 = .ok (.lload_n 1, 1) := by decide +kernel
theorem dX2_minus_2 : decode cX2_minus 2 = .ok (.aload_n 0, 1) := by decide +kernel
theorem dX2_minus_3 : decode cX2_minus 3 = .ok (.lload_n 3, 1) := by decide +kernel
theorem dX2_minus_4 : decode cX2_minus 4 = .ok (.invokevirtual 67, 3) := by decide +kernel
theorem dX2_minus_7 : decode cX2_minus 7 = .ok (.invokestatic 51, 3) := by decide +kernel
theorem dX2_minus_10 : decode cX2_minus 10 = .ok (.lreturn, 1) := by decide +kernel
theorem dX2_plus_0 : decode cX2_plus 0 = .ok (.aload_n 0, 1) := by decide +kernel
theorem dX2_plus_1 : decode cX2_plus 1 = .ok (.lload_n 1, 1) := by decide +kernel
theorem dX2_plus_2 : decode cX2_plus 2 = .ok (.invokevirtual 11, 3) := by decide +kernel
theorem dX2_plus_5 : decode cX2_plus 5 = .ok (.ifCond .ne 11, 3) := by decide +kernel
theorem dX2_plus_8 : decode cX2_plus 8 = .ok (.aload_n 0, 1) := by decide +kernel
theorem dX2_plus_9 : decode cX2_plus 9 = .ok (.lload_n 3, 1) := by decide +kernel
theorem dX2_plus_10 : decode cX2_plus 10 = .ok (.invokevirtual 11, 3) := by decide +kernel
theorem dX2_plus_13 : decode cX2_plus 13 = .ok (.ifCond .eq 8, 3) := by decide +kernel
theorem dX2_plus_16 : decode cX2_plus 16 = .ok (.aload_n 0, 1) := by decide +kernel
theorem dX2_plus_17 : decode cX2_plus 17 = .ok (.getfield 21, 3) := by decide +kernel
theorem dX2_plus_20 : decode cX2_plus 20 = .ok (.lreturn, 1) := by decide +kernel
theorem dX2_plus_21 : decode cX2_plus 21 = .ok (.aload_n 0, 1) := by decide +kernel
theorem dX2_plus_22 : decode cX2_plus 22 = .ok (.lload_n 1, 1) := by decide +kernel
theorem dX2_plus_23 : decode cX2_plus 23 = .ok (.invokevirtual 74, 3) := by decide +kernel
theorem dX2_plus_26 : decode cX2_plus 26 = .ok (.ifCond .eq 26, 3) := by decide +kernel
theorem dX2_plus_29 : decode cX2_plus 29 = .ok (.aload_n 0, 1) := by decide +kernel
theorem dX2_plus_30 : decode cX2_plus 30 = .ok (.lload_n 3, 1) := by decide +kernel
theorem dX2_plus_31 : decode cX2_plus 31 = .ok (.invokevirtual 74, 3) := by decide +kernel
theorem dX2_plus_34 : decode cX2_plus 34 = .ok (.ifCond .eq 16, 3) := by decide +kernel
theorem dX2_plus_37 : decode cX2_plus 37 = .ok (.lload_n 1, 1) := by decide +kernel
theorem dX2_plus_38 : decode cX2_plus 38 = .ok (.lload_n 3, 1) := by decide +kernel
theorem dX2_plus_39 : decode cX2_plus 39 = .ok (.lcmp, 1) := by decide +kernel
theorem dX2_plus_40 : decode cX2_plus 40 = .ok (.ifCond .eq 10, 3) := by decide +kernel
theorem dX2_plus_43 : decode cX2_plus 43 = .ok (.aload_n 0, 1) := by decide +kernel
theorem dX2_plus_44 : decode cX2_plus 44 = .ok (.getfield 21, 3) := by decide +kernel
theorem dX2_plus_47 : decode cX2_plus 47 = .ok (.goto 4, 3) := by decide +kernel
theorem dX2_plus_50 : decode cX2_plus 50 = .ok (.lload_n 1, 1) := by decide +kernel
theorem dX2_plus_51 : decode cX2_plus 51 = .ok (.lreturn, 1) := by decide +kernel
theorem dX2_plus_52 : decode cX2_plus 52 = .ok (.aload_n 0, 1) := by decide +kernel
theorem dX2_plus_53 : decode cX2_plus 53 = .ok (.lload_n 3, 1) := by decide +kernel
theorem dX2_plus_54 : decode cX2_plus 54 = .ok (.invokevirtual 74, 3) := by decide +kernel
theorem dX2_plus_57 : decode cX2_plus 57 = .ok (.ifCond .eq 5, 3) := by decide +kernel
theorem dX2_plus_60 : decode cX2_plus 60 = .ok (.lload_n 3, 1) := by decide +kernel
theorem dX2_plus_61 : decode cX2_plus 61 = .ok (.lreturn, 1) := by decide +kernel
theorem dX2_plus_62 : decode cX2_plus 62 = .ok (.aload_n 0, 1) := by decide +kernel
theorem dX2_plus_63 : decode cX2_plus 63 = .ok (.lload_n 1, 1) := by decide +kernel
theorem dX2_plus_64 : decode cX2_plus 64 = .ok (.invokevirtual 25, 3) := by decide +kernel
theorem dX2_plus_67 : decode cX2_plus 67 = .ok (.aload_n 0, 1) := by decide +kernel
theorem dX2_plus_68 : decode cX2_plus 68 = .ok (.lload_n 3, 1) := by decide +kernel
theorem dX2_plus_69 : decode cX2_plus 69 = .ok (.invokevirtual 25, 3) := by decide +kernel
theorem dX2_plus_72 : decode cX2_plus 72 = .ok (.lcmp, 1) := by decide +kernel
theorem dX2_plus_73 : decode cX2_plus 73 = .ok (.ifCond .ge 7, 3) := by decide +kernel
theorem dX2_plus_76 : decode cX2_plus 76 = .ok (.iconst 1, 1) := by decide +kernel
theorem dX2_plus_77 : decode cX2_plus 77 = .ok (.goto 4, 3) := by decide +kernel
theorem dX2_plus_80 : decode cX2_plus 80 = .ok (.iconst 0, 1) := by decide +kernel
theorem dX2_plus_81 : decode cX2_plus 81 = .ok (.istore 5, 2) := by decide +kernel
theorem dX2_plus_83 : decode cX2_plus 83 = .ok (.iload 5, 2) := by decide +kernel
theorem dX2_plus_85 : decode cX2_plus 85 = .ok (.ifCond .eq 12, 3) := by decide +kernel
theorem dX2_plus_88 : decode cX2_plus 88 = .ok (.aload_n 0, 1) := by decide +kernel
theorem dX2_plus_89 : decode cX2_plus 89 = .ok (.lload_n 3, 1) := by decide +kernel
theorem dX2_plus_90 : decode cX2_plus 90 = .ok (.lload_n 1, 1) := by decide +kernel
theorem dX2_plus_91 : decode cX2_plus 91 = .ok (.invokestatic 102, 3) := by decide +kernel
theorem dX2_plus_94 : decode cX2_plus 94 = .ok (.goto 9, 3) := by decide +kernel
theorem dX2_plus_97 : decode cX2_plus 97 = .ok (.aload_n 0, 1) := by decide +kernel
theorem dX2_plus_98 : decode cX2_plus 98 = .ok (.lload_n 1, 1) := by decide +kernel
theorem dX2_plus_99 : decode cX2_plus 99 = .ok (.lload_n 3, 1) := by decide +kernel
theorem dX2_plus_100 : decode cX2_plus 100 = .ok (.invokestatic 102, 3) := by decide +kernel
theorem dX2_plus_103 : decode cX2_plus 103 = .ok (.lreturn, 1) := by decide +kernel
theorem dX2_plusLesser_0 : decode cX2_plusLesser 0 = .ok (.aload_n 0, 1) := by decide +kernel
theorem dX2_plusLesser_1 : decode cX2_plusLesser 1 = .ok (.lload_n 1, 1) := by decide +kernel
theorem dX2_plusLesser_2 : decode cX2_plusLesser 2 = .ok (.invokevirtual 83, 3) := by decide +kernel
theorem dX2_plusLesser_5 : decode cX2_plusLesser 5 = .ok (.istore 5, 2) := by decide +kernel
theorem dX2_plusLesser_7 : decode cX2_plusLesser 7 = .ok (.iload 5, 2) := by decide +kernel
theorem dX2_plusLesser_9 : decode cX2_plusLesser 9 = .ok (.aload_n 0, 1) := by decide +kernel
theorem dX2_plusLesser_10 : decode cX2_plusLesser 10 = .ok (.lload_n 3, 1) := by decide +kernel
theorem dX2_plusLesser_11 : decode cX2_plusLesser 11 = .ok (.invokevirtual 83, 3) := by decide +kernel
theorem dX2_plusLesser_14 : decode cX2_plusLesser 14 = .ok (.isub, 1) := by decide +kernel
theorem dX2_plusLesser_15 : decode cX2_plusLesser 15 = .ok (.istore 6, 2) := by decide +kernel
theorem dX2_plusLesser_17 : decode cX2_plusLesser 17 = .ok (.iload 6, 2) := by decide +kernel
theorem dX2_plusLesser_19 : decode cX2_plusLesser 19 = .ok (.bipush 9, 2) := by decide +kernel
theorem dX2_plusLesser_21 : decode cX2_plusLesser 21 = .ok (.invokestatic 87, 3) := by decide +kernel
theorem dX2_plusLesser_24 : decode cX2_plusLesser 24 = .ok (.istore 7, 2) := by decide +kernel
theorem dX2_plusLesser_26 : decode cX2_plusLesser 26 = .ok (.aload_n 0, 1) := by decide +kernel
theorem dX2_plusLesser_27 : decode cX2_plusLesser 27 = .ok (.lload_n 1, 1) := by decide +kernel
theorem dX2_plusLesser_28 : decode cX2_plusLesser 28 = .ok (.invokevirtual 80, 3) := by decide +kernel
theorem dX2_plusLesser_31 : decode cX2_plusLesser 31 = .ok (.iload 7, 2) := by decide +kernel
theorem dX2_plusLesser_33 : decode cX2_plusLesser 33 = .ok (.lshl, 1) := by decide +kernel
theorem dX2_plusLesser_34 : decode cX2_plusLesser 34 = .ok (.lstore 8, 2) := by decide +kernel
theorem dX2_plusLesser_36 : decode cX2_plusLesser 36 = .ok (.aload_n 0, 1) := by decide +kernel
theorem dX2_plusLesser_37 : decode cX2_plusLesser 37 = .ok (.lload_n 3, 1) := by decide +kernel
theorem dX2_plusLesser_38 : decode cX2_plusLesser 38 = .ok (.invokevirtual 80, 3) := by decide +kernel
theorem dX2_plusLesser_41 : decode cX2_plusLesser 41 = .ok (.iload 6, 2) := by decide +kernel
theorem dX2_plusLesser_43 : decode cX2_plusLesser 43 = .ok (.iload 7, 2) := by decide +kernel
theorem dX2_plusLesser_45 : decode cX2_plusLesser 45 = .ok (.isub, 1) := by decide +kernel
theorem dX2_plusLesser_46 : decode cX2_plusLesser 46 = .ok (.invokestatic 105, 3) := by decide +kernel
theorem dX2_plusLesser_49 : decode cX2_plusLesser 49 = .ok (.lstore 10, 2) := by decide +kernel
theorem dX2_plusLesser_51 : decode cX2_plusLesser 51 = .ok (.aload_n 0, 1) := by decide +kernel
theorem dX2_plusLesser_52 : decode cX2_plusLesser 52 = .ok (.lload_n 1, 1) := by decide +kernel
theorem dX2_plusLesser_53 : decode cX2_plusLesser 53 = .ok (.invokevirtual 40, 3) := by decide +kernel
theorem dX2_plusLesser_56 : decode cX2_plusLesser 56 = .ok (.istore 12, 2) := by decide +kernel
theorem dX2_plusLesser_58 : decode cX2_plusLesser 58 = .ok (.iload 12, 2) := by decide +kernel
theorem dX2_plusLesser_60 : decode cX2_plusLesser 60 = .ok (.aload_n 0, 1) := by decide +kernel
theorem dX2_plusLesser_61 : decode cX2_plusLesser 61 = .ok (.lload_n 3, 1) := by decide +kernel
theorem dX2_plusLesser_62 : decode cX2_plusLesser 62 = .ok (.invokevirtual 40, 3) := by decide +kernel
theorem dX2_plusLesser_65 : decode cX2_plusLesser 65 = .ok (.if_icmp .ne 7, 3) := by decide +kernel
theorem dX2_plusLesser_68 : decode cX2_plusLesser 68 = .ok (.iconst 1, 1) := by decide +kernel
theorem dX2_plusLesser_69 : decode cX2_plusLesser 69 = .ok (.goto 4, 3) := by decide +kernel
theorem dX2_plusLesser_72 : decode cX2_plusLesser 72 = .ok (.iconst 0, 1) := by decide +kernel
theorem dX2_plusLesser_73 : decode cX2_plusLesser 73 = .ok (.istore 13, 2) := by decide +kernel
theorem dX2_plusLesser_75 : decode cX2_plusLesser 75 = .ok (.iload 13, 2) := by decide +kernel
theorem dX2_plusLesser_77 : decode cX2_plusLesser 77 = .ok (.ifCond .eq 11, 3) := by decide +kernel
theorem dX2_plusLesser_80 : decode cX2_plusLesser 80 = .ok (.lload 8, 2) := by decide +kernel
theorem dX2_plusLesser_82 : decode cX2_plusLesser 82 = .ok (.lload 10, 2) := by decide +kernel
theorem dX2_plusLesser_84 : decode cX2_plusLesser 84 = .ok (.ladd, 1) := by decide +kernel
theorem dX2_plusLesser_85 : decode cX2_plusLesser 85 = .ok (.goto 8, 3) := by decide +kernel
theorem dX2_plusLesser_88 : decode cX2_plusLesser 88 = .ok (.lload 8, 2) := by decide +kernel
theorem dX2_plusLesser_90 : decode cX2_plusLesser 90 = .ok (.lload 10, 2) := by decide +kernel
theorem dX2_plusLesser_92 : decode cX2_plusLesser 92 = .ok (.lsub, 1) := by decide +kernel
theorem dX2_plusLesser_93 : decode cX2_plusLesser 93 = .ok (.lstore 14, 2) := by decide +kernel
theorem dX2_plusLesser_95 : decode cX2_plusLesser 95 = .ok (.lload 14, 2) := by decide +kernel
theorem dX2_plusLesser_97 : decode cX2_plusLesser 97 = .ok (.lconst 0, 1) := by decide +kernel
theorem dX2_plusLesser_98 : decode cX2_plusLesser 98 = .ok (.lcmp, 1) := by decide +kernel
theorem dX2_plusLesser_99 : decode cX2_plusLesser 99 = .ok (.ifCond .ne 24, 3) := by decide +kernel
theorem dX2_plusLesser_102 : decode cX2_plusLesser 102 = .ok (.aload_n 0, 1) := by decide +kernel
theorem dX2_plusLesser_103 : decode cX2_plusLesser 103 = .ok (.iload 12, 2) := by decide +kernel
theorem dX2_plusLesser_105 : decode cX2_plusLesser 105 = .ok (.ifCond .eq 12, 3) := by decide +kernel
theorem dX2_plusLesser_108 : decode cX2_plusLesser 108 = .ok (.iload 13, 2) := by decide +kernel
theorem dX2_plusLesser_110 : decode cX2_plusLesser 110 = .ok (.ifCond .eq 7, 3) := by decide +kernel
theorem dX2_plusLesser_113 : decode cX2_plusLesser 113 = .ok (.iconst 1, 1) := by decide +kernel
theorem dX2_plusLesser_114 : decode cX2_plusLesser 114 = .ok (.goto 4, 3) := by decide +kernel
theorem dX2_plusLesser_117 : decode cX2_plusLesser 117 = .ok (.iconst 0, 1) := by decide +kernel
theorem dX2_plusLesser_118 : decode cX2_plusLesser 118 = .ok (.lconst 0, 1) := by decide +kernel
theorem dX2_plusLesser_119 : decode cX2_plusLesser 119 = .ok (.invokevirtual 47, 3) := by decide +kernel
theorem dX2_plusLesser_122 : decode cX2_plusLesser 122 = .ok (.lreturn, 1) := by decide +kernel
theorem dX2_plusLesser_123 : decode cX2_plusLesser 123 = .ok (.aload_n 0, 1) := by decide +kernel
theorem dX2_plusLesser_124 : decode cX2_plusLesser 124 = .ok (.iload 12, 2) := by decide +kernel
theorem dX2_plusLesser_126 : decode cX2_plusLesser 126 = .ok (.lload 14, 2) := by decide +kernel
theorem dX2_plusLesser_128 : decode cX2_plusLesser 128 = .ok (.iload 5, 2) := by decide +kernel
theorem dX2_plusLesser_130 : decode cX2_plusLesser 130 = .ok (.iload 7, 2) := by decide +kernel
theorem dX2_plusLesser_132 : decode cX2_plusLesser 132 = .ok (.isub, 1) := by decide +kernel
theorem dX2_plusLesser_133 : decode cX2_plusLesser 133 = .ok (.invokevirtual 70, 3) := by decide +kernel
theorem dX2_plusLesser_136 : decode cX2_plusLesser 136 = .ok (.lreturn, 1) := by decide +kernel
theorem dX2_shiftedRight_0 : decode cX2_shiftedRight 0 = .ok (.iload_n 2, 1) := by decide +kernel
theorem dX2_shiftedRight_1 : decode cX2_shiftedRight 1 = .ok (.bipush 62, 2) := by decide +kernel
theorem dX2_shiftedRight_3 : decode cX2_shiftedRight 3 = .ok (.if_icmp .le 15, 3) := by decide +kernel
theorem dX2_shiftedRight_6 : decode cX2_shiftedRight 6 = .ok (.lload_n 0, 1) := by decide +kernel
theorem dX2_shiftedRight_7 : decode cX2_shiftedRight 7 = .ok (.lconst 0, 1) := by decide +kernel
theorem dX2_shiftedRight_8 : decode cX2_shiftedRight 8 = .ok (.lcmp, 1) := by decide +kernel
theorem dX2_shiftedRight_9 : decode cX2_shiftedRight 9 = .ok (.ifCond .ne 7, 3) := by decide +kernel
theorem dX2_shiftedRight_12 : decode cX2_shiftedRight 12 = .ok (.lconst 0, 1) := by decide +kernel
theorem dX2_shiftedRight_13 : decode cX2_shiftedRight 13 = .ok (.goto 4, 3) := by decide +kernel
theorem dX2_shiftedRight_16 : decode cX2_shiftedRight 16 = .ok (.lconst 1, 1) := by decide +kernel
theorem dX2_shiftedRight_17 : decode cX2_shiftedRight 17 = .ok (.lreturn, 1) := by decide +kernel
theorem dX2_shiftedRight_18 : decode cX2_shiftedRight 18 = .ok (.lload_n 0, 1) := by decide +kernel
theorem dX2_shiftedRight_19 : decode cX2_shiftedRight 19 = .ok (.iload_n 2, 1) := by decide +kernel
theorem dX2_shiftedRight_20 : decode cX2_shiftedRight 20 = .ok (.lushr, 1) := by decide +kernel
theorem dX2_shiftedRight_21 : decode cX2_shiftedRight 21 = .ok (.lstore_n 3, 1) := by decide +kernel
theorem dX2_shiftedRight_22 : decode cX2_shiftedRight 22 = .ok (.lload_n 3, 1) := by decide +kernel
theorem dX2_shiftedRight_23 : decode cX2_shiftedRight 23 = .ok (.iload_n 2, 1) := by decide +kernel
theorem dX2_shiftedRight_24 : decode cX2_shiftedRight 24 = .ok (.lshl, 1) := by decide +kernel
theorem dX2_shiftedRight_25 : decode cX2_shiftedRight 25 = .ok (.lload_n 0, 1) := by decide +kernel
theorem dX2_shiftedRight_26 : decode cX2_shiftedRight 26 = .ok (.lcmp, 1) := by decide +kernel
theorem dX2_shiftedRight_27 : decode cX2_shiftedRight 27 = .ok (.ifCond .ne 7, 3) := by decide +kernel
theorem dX2_shiftedRight_30 : decode cX2_shiftedRight 30 = .ok (.lload_n 3, 1) := by decide +kernel
theorem dX2_shiftedRight_31 : decode cX2_shiftedRight 31 = .ok (.goto 6, 3) := by decide +kernel
theorem dX2_shiftedRight_34 : decode cX2_shiftedRight 34 = .ok (.lload_n 3, 1) := by decide +kernel
theorem dX2_shiftedRight_35 : decode cX2_shiftedRight 35 = .ok (.lconst 1, 1) := by decide +kernel
theorem dX2_shiftedRight_36 : decode cX2_shiftedRight 36 = .ok (.lor, 1) := by decide +kernel
theorem dX2_shiftedRight_37 : decode cX2_shiftedRight 37 = .ok (.lreturn, 1) := by decide +kernel
theorem dX2_times_0 : decode cX2_times 0 = .ok (.aload_n 0, 1) := by decide +kernel
theorem dX2_times_1 : decode cX2_times 1 = .ok (.lload_n 1, 1) := by decide +kernel
theorem dX2_times_2 : decode cX2_times 2 = .ok (.invokevirtual 40, 3) := by decide +kernel
theorem dX2_times_5 : decode cX2_times 5 = .ok (.aload_n 0, 1) := by decide +kernel
theorem dX2_times_6 : decode cX2_times 6 = .ok (.lload_n 3, 1) := by decide +kernel
theorem dX2_times_7 : decode cX2_times 7 = .ok (.invokevirtual 40, 3) := by decide +kernel
theorem dX2_times_10 : decode cX2_times 10 = .ok (.if_icmp .eq 7, 3) := by decide +kernel
theorem dX2_times_13 : decode cX2_times 13 = .ok (.iconst 1, 1) := by decide +kernel
theorem dX2_times_14 : decode cX2_times 14 = .ok (.goto 4, 3) := by decide +kernel
theorem dX2_times_17 : decode cX2_times 17 = .ok (.iconst 0, 1) := by decide +kernel
theorem dX2_times_18 : decode cX2_times 18 = .ok (.istore 5, 2) := by decide +kernel
theorem dX2_times_20 : decode cX2_times 20 = .ok (.aload_n 0, 1) := by decide +kernel
theorem dX2_times_21 : decode cX2_times 21 = .ok (.lload_n 1, 1) := by decide +kernel
theorem dX2_times_22 : decode cX2_times 22 = .ok (.invokevirtual 25, 3) := by decide +kernel
theorem dX2_times_25 : decode cX2_times 25 = .ok (.lconst 0, 1) := by decide +kernel
theorem dX2_times_26 : decode cX2_times 26 = .ok (.lcmp, 1) := by decide +kernel
theorem dX2_times_27 : decode cX2_times 27 = .ok (.ifCond .eq 13, 3) := by decide +kernel
theorem dX2_times_30 : decode cX2_times 30 = .ok (.aload_n 0, 1) := by decide +kernel
theorem dX2_times_31 : decode cX2_times 31 = .ok (.lload_n 3, 1) := by decide +kernel
theorem dX2_times_32 : decode cX2_times 32 = .ok (.invokevirtual 25, 3) := by decide +kernel
theorem dX2_times_35 : decode cX2_times 35 = .ok (.lconst 0, 1) := by decide +kernel
theorem dX2_times_36 : decode cX2_times 36 = .ok (.lcmp, 1) := by decide +kernel
theorem dX2_times_37 : decode cX2_times 37 = .ok (.ifCond .ne 7, 3) := by decide +kernel
theorem dX2_times_40 : decode cX2_times 40 = .ok (.iconst 1, 1) := by decide +kernel
theorem dX2_times_41 : decode cX2_times 41 = .ok (.goto 4, 3) := by decide +kernel
theorem dX2_times_44 : decode cX2_times 44 = .ok (.iconst 0, 1) := by decide +kernel
theorem dX2_times_45 : decode cX2_times 45 = .ok (.istore 6, 2) := by decide +kernel
theorem dX2_times_47 : decode cX2_times 47 = .ok (.aload_n 0, 1) := by decide +kernel
theorem dX2_times_48 : decode cX2_times 48 = .ok (.lload_n 1, 1) := by decide +kernel
theorem dX2_times_49 : decode cX2_times 49 = .ok (.invokevirtual 74, 3) := by decide +kernel
theorem dX2_times_52 : decode cX2_times 52 = .ok (.ifCond .ne 11, 3) := by decide +kernel
theorem dX2_times_55 : decode cX2_times 55 = .ok (.aload_n 0, 1) := by decide +kernel
theorem dX2_times_56 : decode cX2_times 56 = .ok (.lload_n 3, 1) := by decide +kernel
theorem dX2_times_57 : decode cX2_times 57 = .ok (.invokevirtual 74, 3) := by decide +kernel
theorem dX2_times_60 : decode cX2_times 60 = .ok (.ifCond .eq 26, 3) := by decide +kernel
theorem dX2_times_63 : decode cX2_times 63 = .ok (.iload 6, 2) := by decide +kernel
theorem dX2_times_65 : decode cX2_times 65 = .ok (.ifCond .eq 10, 3) := by decide +kernel
theorem dX2_times_68 : decode cX2_times 68 = .ok (.aload_n 0, 1) := by decide +kernel
theorem dX2_times_69 : decode cX2_times 69 = .ok (.getfield 21, 3) := by decide +kernel
theorem dX2_times_72 : decode cX2_times 72 = .ok (.goto 13, 3) := by decide +kernel
theorem dX2_times_75 : decode cX2_times 75 = .ok (.aload_n 0, 1) := by decide +kernel
theorem dX2_times_76 : decode cX2_times 76 = .ok (.iload 5, 2) := by decide +kernel
theorem dX2_times_78 : decode cX2_times 78 = .ok (.aload_n 0, 1) := by decide +kernel
theorem dX2_times_79 : decode cX2_times 79 = .ok (.getfield 77, 3) := by decide +kernel
theorem dX2_times_82 : decode cX2_times 82 = .ok (.invokevirtual 47, 3) := by decide +kernel
theorem dX2_times_85 : decode cX2_times 85 = .ok (.lreturn, 1) := by decide +kernel
theorem dX2_times_86 : decode cX2_times 86 = .ok (.iload 6, 2) := by decide +kernel
theorem dX2_times_88 : decode cX2_times 88 = .ok (.ifCond .eq 11, 3) := by decide +kernel
theorem dX2_times_91 : decode cX2_times 91 = .ok (.aload_n 0, 1) := by decide +kernel
theorem dX2_times_92 : decode cX2_times 92 = .ok (.iload 5, 2) := by decide +kernel
theorem dX2_times_94 : decode cX2_times 94 = .ok (.lconst 0, 1) := by decide +kernel
theorem dX2_times_95 : decode cX2_times 95 = .ok (.invokevirtual 47, 3) := by decide +kernel
theorem dX2_times_98 : decode cX2_times 98 = .ok (.lreturn, 1) := by decide +kernel
theorem dX2_times_99 : decode cX2_times 99 = .ok (.aload_n 0, 1) := by decide +kernel
theorem dX2_times_100 : decode cX2_times 100 = .ok (.lload_n 1, 1) := by decide +kernel
theorem dX2_times_101 : decode cX2_times 101 = .ok (.invokevirtual 80, 3) := by decide +kernel
theorem dX2_times_104 : decode cX2_times 104 = .ok (.lstore 7, 2) := by decide +kernel
theorem dX2_times_106 : decode cX2_times 106 = .ok (.aload_n 0, 1) := by decide +kernel
theorem dX2_times_107 : decode cX2_times 107 = .ok (.lload_n 3, 1) := by decide +kernel
theorem dX2_times_108 : decode cX2_times 108 = .ok (.invokevirtual 80, 3) := by decide +kernel
theorem dX2_times_111 : decode cX2_times 111 = .ok (.lstore 9, 2) := by decide +kernel
theorem dX2_times_113 : decode cX2_times 113 = .ok (.lload 7, 2) := by decide +kernel
theorem dX2_times_115 : decode cX2_times 115 = .ok (.invokestatic 93, 3) := by decide +kernel
theorem dX2_times_118 : decode cX2_times 118 = .ok (.bipush 11, 2) := by decide +kernel
theorem dX2_times_120 : decode cX2_times 120 = .ok (.isub, 1) := by decide +kernel
theorem dX2_times_121 : decode cX2_times 121 = .ok (.istore 11, 2) := by decide +kernel
theorem dX2_times_123 : decode cX2_times 123 = .ok (.lload 9, 2) := by decide +kernel
theorem dX2_times_125 : decode cX2_times 125 = .ok (.invokestatic 93, 3) := by decide +kernel
theorem dX2_times_128 : decode cX2_times 128 = .ok (.bipush 11, 2) := by decide +kernel
theorem dX2_times_130 : decode cX2_times 130 = .ok (.isub, 1) := by decide +kernel
theorem dX2_times_131 : decode cX2_times 131 = .ok (.istore 12, 2) := by decide +kernel
theorem dX2_times_133 : decode cX2_times 133 = .ok (.aload_n 0, 1) := by decide +kernel
theorem dX2_times_134 : decode cX2_times 134 = .ok (.lload_n 1, 1) := by decide +kernel
theorem dX2_times_135 : decode cX2_times 135 = .ok (.invokevirtual 83, 3) := by decide +kernel
theorem dX2_times_138 : decode cX2_times 138 = .ok (.iload 11, 2) := by decide +kernel
theorem dX2_times_140 : decode cX2_times 140 = .ok (.isub, 1) := by decide +kernel
theorem dX2_times_141 : decode cX2_times 141 = .ok (.aload_n 0, 1) := by decide +kernel
theorem dX2_times_142 : decode cX2_times 142 = .ok (.lload_n 3, 1) := by decide +kernel
theorem dX2_times_143 : decode cX2_times 143 = .ok (.invokevirtual 83, 3) := by decide +kernel
theorem dX2_times_146 : decode cX2_times 146 = .ok (.iadd, 1) := by decide +kernel
theorem dX2_times_147 : decode cX2_times 147 = .ok (.iload 12, 2) := by decide +kernel
theorem dX2_times_149 : decode cX2_times 149 = .ok (.isub, 1) := by decide +kernel
theorem dX2_times_150 : decode cX2_times 150 = .ok (.istore 13, 2) := by decide +kernel
theorem dX2_times_152 : decode cX2_times 152 = .ok (.lload 7, 2) := by decide +kernel
theorem dX2_times_154 : decode cX2_times 154 = .ok (.iload 11, 2) := by decide +kernel
theorem dX2_times_156 : decode cX2_times 156 = .ok (.lshl, 1) := by decide +kernel
theorem dX2_times_157 : decode cX2_times 157 = .ok (.lload 9, 2) := by decide +kernel
theorem dX2_times_159 : decode cX2_times 159 = .ok (.iload 12, 2) := by decide +kernel
theorem dX2_times_161 : decode cX2_times 161 = .ok (.lshl, 1) := by decide +kernel
theorem dX2_times_162 : decode cX2_times 162 = .ok (.invokestatic 109, 3) := by decide +kernel
theorem dX2_times_165 : decode cX2_times 165 = .ok (.lstore 14, 2) := by decide +kernel
theorem dX2_times_167 : decode cX2_times 167 = .ok (.aload_n 0, 1) := by decide +kernel
theorem dX2_times_168 : decode cX2_times 168 = .ok (.iload 5, 2) := by decide +kernel
theorem dX2_times_170 : decode cX2_times 170 = .ok (.lload 14, 2) := by decide +kernel
theorem dX2_times_172 : decode cX2_times 172 = .ok (.iload 13, 2) := by decide +kernel
theorem dX2_times_174 : decode cX2_times 174 = .ok (.bipush 44, 2) := by decide +kernel
theorem dX2_times_176 : decode cX2_times 176 = .ok (.iadd, 1) := by decide +kernel
theorem dX2_times_177 : decode cX2_times 177 = .ok (.invokevirtual 70, 3) := by decide +kernel
theorem dX2_times_180 : decode cX2_times 180 = .ok (.lreturn, 1) := by decide +kernel
theorem dX2_productTop_0 : decode cX2_productTop 0 = .ok (.ldc2_w 112, 3) := by decide +kernel
theorem dX2_productTop_3 : decode cX2_productTop 3 = .ok (.lstore 4, 2) := by decide +kernel
theorem dX2_productTop_5 : decode cX2_productTop 5 = .ok (.lload_n 0, 1) := by decide +kernel
theorem dX2_productTop_6 : decode cX2_productTop 6 = .ok (.bipush 27, 2) := by decide +kernel
theorem dX2_productTop_8 : decode cX2_productTop 8 = .ok (.lushr, 1) := by decide +kernel
theorem dX2_productTop_9 : decode cX2_productTop 9 = .ok (.lstore 6, 2) := by decide +kernel
theorem dX2_productTop_11 : decode cX2_productTop 11 = .ok (.lload_n 0, 1) := by decide +kernel
theorem dX2_productTop_12 : decode cX2_productTop 12 = .ok (.lload 4, 2) := by decide +kernel
theorem dX2_productTop_14 : decode cX2_productTop 14 = .ok (.land, 1) := by decide +kernel
theorem dX2_productTop_15 : decode cX2_productTop 15 = .ok (.lstore 8, 2) := by decide +kernel
theorem dX2_productTop_17 : decode cX2_productTop 17 = .ok (.lload_n 2, 1) := by decide +kernel
theorem dX2_productTop_18 : decode cX2_productTop 18 = .ok (.bipush 27, 2) := by decide +kernel
theorem dX2_productTop_20 : decode cX2_productTop 20 = .ok (.lushr, 1) := by decide +kernel
theorem dX2_productTop_21 : decode cX2_productTop 21 = .ok (.lstore 10, 2) := by decide +kernel
theorem dX2_productTop_23 : decode cX2_productTop 23 = .ok (.lload_n 2, 1) := by decide +kernel
theorem dX2_productTop_24 : decode cX2_productTop 24 = .ok (.lload 4, 2) := by decide +kernel
theorem dX2_productTop_26 : decode cX2_productTop 26 = .ok (.land, 1) := by decide +kernel
theorem dX2_productTop_27 : decode cX2_productTop 27 = .ok (.lstore 12, 2) := by decide +kernel
theorem dX2_productTop_29 : decode cX2_productTop 29 = .ok (.lload 8, 2) := by decide +kernel
theorem dX2_productTop_31 : decode cX2_productTop 31 = .ok (.lload 12, 2) := by decide +kernel
theorem dX2_productTop_33 : decode cX2_productTop 33 = .ok (.lmul, 1) := by decide +kernel
theorem dX2_productTop_34 : decode cX2_productTop 34 = .ok (.lstore 14, 2) := by decide +kernel
theorem dX2_productTop_36 : decode cX2_productTop 36 = .ok (.lload 6, 2) := by decide +kernel
theorem dX2_productTop_38 : decode cX2_productTop 38 = .ok (.lload 12, 2) := by decide +kernel
theorem dX2_productTop_40 : decode cX2_productTop 40 = .ok (.lmul, 1) := by decide +kernel
theorem dX2_productTop_41 : decode cX2_productTop 41 = .ok (.lload 8, 2) := by decide +kernel
theorem dX2_productTop_43 : decode cX2_productTop 43 = .ok (.lload 10, 2) := by decide +kernel
theorem dX2_productTop_45 : decode cX2_productTop 45 = .ok (.lmul, 1) := by decide +kernel
theorem dX2_productTop_46 : decode cX2_productTop 46 = .ok (.ladd, 1) := by decide +kernel
theorem dX2_productTop_47 : decode cX2_productTop 47 = .ok (.lload 14, 2) := by decide +kernel
theorem dX2_productTop_49 : decode cX2_productTop 49 = .ok (.bipush 27, 2) := by decide +kernel
theorem dX2_productTop_51 : decode cX2_productTop 51 = .ok (.lushr, 1) := by decide +kernel
theorem dX2_productTop_52 : decode cX2_productTop 52 = .ok (.ladd, 1) := by decide +kernel
theorem dX2_productTop_53 : decode cX2_productTop 53 = .ok (.lstore 16, 2) := by decide +kernel
theorem dX2_productTop_55 : decode cX2_productTop 55 = .ok (.lload 6, 2) := by decide +kernel
theorem dX2_productTop_57 : decode cX2_productTop 57 = .ok (.lload 10, 2) := by decide +kernel
theorem dX2_productTop_59 : decode cX2_productTop 59 = .ok (.lmul, 1) := by decide +kernel
theorem dX2_productTop_60 : decode cX2_productTop 60 = .ok (.bipush 10, 2) := by decide +kernel
theorem dX2_productTop_62 : decode cX2_productTop 62 = .ok (.lshl, 1) := by decide +kernel
theorem dX2_productTop_63 : decode cX2_productTop 63 = .ok (.lload 16, 2) := by decide +kernel
theorem dX2_productTop_65 : decode cX2_productTop 65 = .ok (.bipush 17, 2) := by decide +kernel
theorem dX2_productTop_67 : decode cX2_productTop 67 = .ok (.lushr, 1) := by decide +kernel
theorem dX2_productTop_68 : decode cX2_productTop 68 = .ok (.ladd, 1) := by decide +kernel
theorem dX2_productTop_69 : decode cX2_productTop 69 = .ok (.lstore 18, 2) := by decide +kernel
theorem dX2_productTop_71 : decode cX2_productTop 71 = .ok (.lload 14, 2) := by decide +kernel
theorem dX2_productTop_73 : decode cX2_productTop 73 = .ok (.lload 4, 2) := by decide +kernel
theorem dX2_productTop_75 : decode cX2_productTop 75 = .ok (.land, 1) := by decide +kernel
theorem dX2_productTop_76 : decode cX2_productTop 76 = .ok (.lconst 0, 1) := by decide +kernel
theorem dX2_productTop_77 : decode cX2_productTop 77 = .ok (.lcmp, 1) := by decide +kernel
theorem dX2_productTop_78 : decode cX2_productTop 78 = .ok (.ifCond .ne 18, 3) := by decide +kernel
theorem dX2_productTop_81 : decode cX2_productTop 81 = .ok (.lload 16, 2) := by decide +kernel
theorem dX2_productTop_83 : decode cX2_productTop 83 = .ok (.ldc2_w 114, 3) := by decide +kernel
theorem dX2_productTop_86 : decode cX2_productTop 86 = .ok (.land, 1) := by decide +kernel
theorem dX2_productTop_87 : decode cX2_productTop 87 = .ok (.lconst 0, 1) := by decide +kernel
theorem dX2_productTop_88 : decode cX2_productTop 88 = .ok (.lcmp, 1) := by decide +kernel
theorem dX2_productTop_89 : decode cX2_productTop 89 = .ok (.ifCond .ne 7, 3) := by decide +kernel
theorem dX2_productTop_92 : decode cX2_productTop 92 = .ok (.iconst 1, 1) := by decide +kernel
theorem dX2_productTop_93 : decode cX2_productTop 93 = .ok (.goto 4, 3) := by decide +kernel
theorem dX2_productTop_96 : decode cX2_productTop 96 = .ok (.iconst 0, 1) := by decide +kernel
theorem dX2_productTop_97 : decode cX2_productTop 97 = .ok (.istore 20, 2) := by decide +kernel
theorem dX2_productTop_99 : decode cX2_productTop 99 = .ok (.iload 20, 2) := by decide +kernel
theorem dX2_productTop_101 : decode cX2_productTop 101 = .ok (.ifCond .eq 8, 3) := by decide +kernel
theorem dX2_productTop_104 : decode cX2_productTop 104 = .ok (.lload 18, 2) := by decide +kernel
theorem dX2_productTop_106 : decode cX2_productTop 106 = .ok (.goto 7, 3) := by decide +kernel
theorem dX2_productTop_109 : decode cX2_productTop 109 = .ok (.lload 18, 2) := by decide +kernel
theorem dX2_productTop_111 : decode cX2_productTop 111 = .ok (.lconst 1, 1) := by decide +kernel
theorem dX2_productTop_112 : decode cX2_productTop 112 = .ok (.lor, 1) := by decide +kernel
theorem dX2_productTop_113 : decode cX2_productTop 113 = .ok (.lreturn, 1) := by decide +kernel
theorem dX2_over_0 : decode cX2_over 0 = .ok (.aload_n 0, 1) := by decide +kernel
theorem dX2_over_1 : decode cX2_over 1 = .ok (.lload_n 1, 1) := by decide +kernel
theorem dX2_over_2 : decode cX2_over 2 = .ok (.invokevirtual 40, 3) := by decide +kernel
theorem dX2_over_5 : decode cX2_over 5 = .ok (.aload_n 0, 1) := by decide +kernel
theorem dX2_over_6 : decode cX2_over 6 = .ok (.lload_n 3, 1) := by decide +kernel
theorem dX2_over_7 : decode cX2_over 7 = .ok (.invokevirtual 40, 3) := by decide +kernel
theorem dX2_over_10 : decode cX2_over 10 = .ok (.if_icmp .eq 7, 3) := by decide +kernel
theorem dX2_over_13 : decode cX2_over 13 = .ok (.iconst 1, 1) := by decide +kernel
theorem dX2_over_14 : decode cX2_over 14 = .ok (.goto 4, 3) := by decide +kernel
theorem dX2_over_17 : decode cX2_over 17 = .ok (.iconst 0, 1) := by decide +kernel
theorem dX2_over_18 : decode cX2_over 18 = .ok (.istore 5, 2) := by decide +kernel
theorem dX2_over_20 : decode cX2_over 20 = .ok (.aload_n 0, 1) := by decide +kernel
theorem dX2_over_21 : decode cX2_over 21 = .ok (.lload_n 1, 1) := by decide +kernel
theorem dX2_over_22 : decode cX2_over 22 = .ok (.invokevirtual 74, 3) := by decide +kernel
theorem dX2_over_25 : decode cX2_over 25 = .ok (.ifCond .eq 29, 3) := by decide +kernel
theorem dX2_over_28 : decode cX2_over 28 = .ok (.aload_n 0, 1) := by decide +kernel
theorem dX2_over_29 : decode cX2_over 29 = .ok (.lload_n 3, 1) := by decide +kernel
theorem dX2_over_30 : decode cX2_over 30 = .ok (.invokevirtual 74, 3) := by decide +kernel
theorem dX2_over_33 : decode cX2_over 33 = .ok (.ifCond .eq 10, 3) := by decide +kernel
theorem dX2_over_36 : decode cX2_over 36 = .ok (.aload_n 0, 1) := by decide +kernel
theorem dX2_over_37 : decode cX2_over 37 = .ok (.getfield 21, 3) := by decide +kernel
theorem dX2_over_40 : decode cX2_over 40 = .ok (.goto 13, 3) := by decide +kernel
theorem dX2_over_43 : decode cX2_over 43 = .ok (.aload_n 0, 1) := by decide +kernel
theorem dX2_over_44 : decode cX2_over 44 = .ok (.iload 5, 2) := by decide +kernel
theorem dX2_over_46 : decode cX2_over 46 = .ok (.aload_n 0, 1) := by decide +kernel
theorem dX2_over_47 : decode cX2_over 47 = .ok (.getfield 77, 3) := by decide +kernel
theorem dX2_over_50 : decode cX2_over 50 = .ok (.invokevirtual 47, 3) := by decide +kernel
theorem dX2_over_53 : decode cX2_over 53 = .ok (.lreturn, 1) := by decide +kernel
theorem dX2_over_54 : decode cX2_over 54 = .ok (.aload_n 0, 1) := by decide +kernel
theorem dX2_over_55 : decode cX2_over 55 = .ok (.lload_n 3, 1) := by decide +kernel
theorem dX2_over_56 : decode cX2_over 56 = .ok (.invokevirtual 74, 3) := by decide +kernel
theorem dX2_over_59 : decode cX2_over 59 = .ok (.ifCond .eq 11, 3) := by decide +kernel
theorem dX2_over_62 : decode cX2_over 62 = .ok (.aload_n 0, 1) := by decide +kernel
theorem dX2_over_63 : decode cX2_over 63 = .ok (.iload 5, 2) := by decide +kernel
theorem dX2_over_65 : decode cX2_over 65 = .ok (.lconst 0, 1) := by decide +kernel
theorem dX2_over_66 : decode cX2_over 66 = .ok (.invokevirtual 47, 3) := by decide +kernel
theorem dX2_over_69 : decode cX2_over 69 = .ok (.lreturn, 1) := by decide +kernel
theorem dX2_over_70 : decode cX2_over 70 = .ok (.aload_n 0, 1) := by decide +kernel
theorem dX2_over_71 : decode cX2_over 71 = .ok (.lload_n 1, 1) := by decide +kernel
theorem dX2_over_72 : decode cX2_over 72 = .ok (.invokevirtual 80, 3) := by decide +kernel
theorem dX2_over_75 : decode cX2_over 75 = .ok (.lstore 6, 2) := by decide +kernel
theorem dX2_over_77 : decode cX2_over 77 = .ok (.aload_n 0, 1) := by decide +kernel
theorem dX2_over_78 : decode cX2_over 78 = .ok (.lload_n 3, 1) := by decide +kernel
theorem dX2_over_79 : decode cX2_over 79 = .ok (.invokevirtual 80, 3) := by decide +kernel
theorem dX2_over_82 : decode cX2_over 82 = .ok (.lstore 8, 2) := by decide +kernel
theorem dX2_over_84 : decode cX2_over 84 = .ok (.lload 8, 2) := by decide +kernel
theorem dX2_over_86 : decode cX2_over 86 = .ok (.lconst 0, 1) := by decide +kernel
theorem dX2_over_87 : decode cX2_over 87 = .ok (.lcmp, 1) := by decide +kernel
theorem dX2_over_88 : decode cX2_over 88 = .ok (.ifCond .ne 28, 3) := by decide +kernel
theorem dX2_over_91 : decode cX2_over 91 = .ok (.lload 6, 2) := by decide +kernel
theorem dX2_over_93 : decode cX2_over 93 = .ok (.lconst 0, 1) := by decide +kernel
theorem dX2_over_94 : decode cX2_over 94 = .ok (.lcmp, 1) := by decide +kernel
theorem dX2_over_95 : decode cX2_over 95 = .ok (.ifCond .ne 10, 3) := by decide +kernel
theorem dX2_over_98 : decode cX2_over 98 = .ok (.aload_n 0, 1) := by decide +kernel
theorem dX2_over_99 : decode cX2_over 99 = .ok (.getfield 21, 3) := by decide +kernel
theorem dX2_over_102 : decode cX2_over 102 = .ok (.goto 13, 3) := by decide +kernel
theorem dX2_over_105 : decode cX2_over 105 = .ok (.aload_n 0, 1) := by decide +kernel
theorem dX2_over_106 : decode cX2_over 106 = .ok (.iload 5, 2) := by decide +kernel
theorem dX2_over_108 : decode cX2_over 108 = .ok (.aload_n 0, 1) := by decide +kernel
theorem dX2_over_109 : decode cX2_over 109 = .ok (.getfield 77, 3) := by decide +kernel
theorem dX2_over_112 : decode cX2_over 112 = .ok (.invokevirtual 47, 3) := by decide +kernel
theorem dX2_over_115 : decode cX2_over 115 = .ok (.lreturn, 1) := by decide +kernel
theorem dX2_over_116 : decode cX2_over 116 = .ok (.lload 6, 2) := by decide +kernel
theorem dX2_over_118 : decode cX2_over 118 = .ok (.lconst 0, 1) := by decide +kernel
theorem dX2_over_119 : decode cX2_over 119 = .ok (.lcmp, 1) := by decide +kernel
theorem dX2_over_120 : decode cX2_over 120 = .ok (.ifCond .ne 11, 3) := by decide +kernel
theorem dX2_over_123 : decode cX2_over 123 = .ok (.aload_n 0, 1) := by decide +kernel
theorem dX2_over_124 : decode cX2_over 124 = .ok (.iload 5, 2) := by decide +kernel
theorem dX2_over_126 : decode cX2_over 126 = .ok (.lconst 0, 1) := by decide +kernel
theorem dX2_over_127 : decode cX2_over 127 = .ok (.invokevirtual 47, 3) := by decide +kernel
theorem dX2_over_130 : decode cX2_over 130 = .ok (.lreturn, 1) := by decide +kernel
theorem dX2_over_131 : decode cX2_over 131 = .ok (.lload 6, 2) := by decide +kernel
theorem dX2_over_133 : decode cX2_over 133 = .ok (.invokestatic 93, 3) := by decide +kernel
theorem dX2_over_136 : decode cX2_over 136 = .ok (.bipush 11, 2) := by decide +kernel
theorem dX2_over_138 : decode cX2_over 138 = .ok (.isub, 1) := by decide +kernel
theorem dX2_over_139 : decode cX2_over 139 = .ok (.istore 10, 2) := by decide +kernel
theorem dX2_over_141 : decode cX2_over 141 = .ok (.lload 8, 2) := by decide +kernel
theorem dX2_over_143 : decode cX2_over 143 = .ok (.invokestatic 93, 3) := by decide +kernel
theorem dX2_over_146 : decode cX2_over 146 = .ok (.bipush 11, 2) := by decide +kernel
theorem dX2_over_148 : decode cX2_over 148 = .ok (.isub, 1) := by decide +kernel
theorem dX2_over_149 : decode cX2_over 149 = .ok (.istore 11, 2) := by decide +kernel
theorem dX2_over_151 : decode cX2_over 151 = .ok (.aload_n 0, 1) := by decide +kernel
theorem dX2_over_152 : decode cX2_over 152 = .ok (.lload_n 1, 1) := by decide +kernel
theorem dX2_over_153 : decode cX2_over 153 = .ok (.invokevirtual 83, 3) := by decide +kernel
theorem dX2_over_156 : decode cX2_over 156 = .ok (.iload 10, 2) := by decide +kernel
theorem dX2_over_158 : decode cX2_over 158 = .ok (.isub, 1) := by decide +kernel
theorem dX2_over_159 : decode cX2_over 159 = .ok (.aload_n 0, 1) := by decide +kernel
theorem dX2_over_160 : decode cX2_over 160 = .ok (.lload_n 3, 1) := by decide +kernel
theorem dX2_over_161 : decode cX2_over 161 = .ok (.invokevirtual 83, 3) := by decide +kernel
theorem dX2_over_164 : decode cX2_over 164 = .ok (.iload 11, 2) := by decide +kernel
theorem dX2_over_166 : decode cX2_over 166 = .ok (.isub, 1) := by decide +kernel
theorem dX2_over_167 : decode cX2_over 167 = .ok (.isub, 1) := by decide +kernel
theorem dX2_over_168 : decode cX2_over 168 = .ok (.istore 12, 2) := by decide +kernel
theorem dX2_over_170 : decode cX2_over 170 = .ok (.lload 6, 2) := by decide +kernel
theorem dX2_over_172 : decode cX2_over 172 = .ok (.iload 10, 2) := by decide +kernel
theorem dX2_over_174 : decode cX2_over 174 = .ok (.lshl, 1) := by decide +kernel
theorem dX2_over_175 : decode cX2_over 175 = .ok (.lload 8, 2) := by decide +kernel
theorem dX2_over_177 : decode cX2_over 177 = .ok (.iload 11, 2) := by decide +kernel
theorem dX2_over_179 : decode cX2_over 179 = .ok (.lshl, 1) := by decide +kernel
theorem dX2_over_180 : decode cX2_over 180 = .ok (.invokestatic 116, 3) := by decide +kernel
theorem dX2_over_183 : decode cX2_over 183 = .ok (.lstore 13, 2) := by decide +kernel
theorem dX2_over_185 : decode cX2_over 185 = .ok (.aload_n 0, 1) := by decide +kernel
theorem dX2_over_186 : decode cX2_over 186 = .ok (.iload 5, 2) := by decide +kernel
theorem dX2_over_188 : decode cX2_over 188 = .ok (.lload 13, 2) := by decide +kernel
theorem dX2_over_190 : decode cX2_over 190 = .ok (.iload 12, 2) := by decide +kernel
theorem dX2_over_192 : decode cX2_over 192 = .ok (.bipush 60, 2) := by decide +kernel
theorem dX2_over_194 : decode cX2_over 194 = .ok (.isub, 1) := by decide +kernel
theorem dX2_over_195 : decode cX2_over 195 = .ok (.invokevirtual 70, 3) := by decide +kernel
theorem dX2_over_198 : decode cX2_over 198 = .ok (.lreturn, 1) := by decide +kernel
theorem dX2_quotientOf_0 : decode cX2_quotientOf 0 = .ok (.lload_n 2, 1) := by decide +kernel
theorem dX2_quotientOf_1 : decode cX2_quotientOf 1 = .ok (.lconst 0, 1) := by decide +kernel
theorem dX2_quotientOf_2 : decode cX2_quotientOf 2 = .ok (.lcmp, 1) := by decide +kernel
theorem dX2_quotientOf_3 : decode cX2_quotientOf 3 = .ok (.ifCond .ne 5, 3) := by decide +kernel
theorem dX2_quotientOf_6 : decode cX2_quotientOf 6 = .ok (.lconst 0, 1) := by decide +kernel
theorem dX2_quotientOf_7 : decode cX2_quotientOf 7 = .ok (.lreturn, 1) := by decide +kernel
theorem dX2_quotientOf_8 : decode cX2_quotientOf 8 = .ok (.lload_n 0, 1) := by decide +kernel
theorem dX2_quotientOf_9 : decode cX2_quotientOf 9 = .ok (.lload_n 2, 1) := by decide +kernel
theorem dX2_quotientOf_10 : decode cX2_quotientOf 10 = .ok (.ldiv, 1) := by decide +kernel
theorem dX2_quotientOf_11 : decode cX2_quotientOf 11 = .ok (.lstore 4, 2) := by decide +kernel
theorem dX2_quotientOf_13 : decode cX2_quotientOf 13 = .ok (.lload_n 0, 1) := by decide +kernel
theorem dX2_quotientOf_14 : decode cX2_quotientOf 14 = .ok (.lload_n 2, 1) := by decide +kernel
theorem dX2_quotientOf_15 : decode cX2_quotientOf 15 = .ok (.lrem, 1) := by decide +kernel
theorem dX2_quotientOf_16 : decode cX2_quotientOf 16 = .ok (.lstore 6, 2) := by decide +kernel
theorem dX2_quotientOf_18 : decode cX2_quotientOf 18 = .ok (.iconst 0, 1) := by decide +kernel
theorem dX2_quotientOf_19 : decode cX2_quotientOf 19 = .ok (.istore 8, 2) := by decide +kernel
theorem dX2_quotientOf_21 : decode cX2_quotientOf 21 = .ok (.iload 8, 2) := by decide +kernel
theorem dX2_quotientOf_23 : decode cX2_quotientOf 23 = .ok (.bipush 6, 2) := by decide +kernel
theorem dX2_quotientOf_25 : decode cX2_quotientOf 25 = .ok (.if_icmp .ge 34, 3) := by decide +kernel
theorem dX2_quotientOf_28 : decode cX2_quotientOf 28 = .ok (.lload 6, 2) := by decide +kernel
theorem dX2_quotientOf_30 : decode cX2_quotientOf 30 = .ok (.bipush 10, 2) := by decide +kernel
theorem dX2_quotientOf_32 : decode cX2_quotientOf 32 = .ok (.lshl, 1) := by decide +kernel
theorem dX2_quotientOf_33 : decode cX2_quotientOf 33 = .ok (.lstore 9, 2) := by decide +kernel
theorem dX2_quotientOf_35 : decode cX2_quotientOf 35 = .ok (.lload 4, 2) := by decide +kernel
theorem dX2_quotientOf_37 : decode cX2_quotientOf 37 = .ok (.bipush 10, 2) := by decide +kernel
theorem dX2_quotientOf_39 : decode cX2_quotientOf 39 = .ok (.lshl, 1) := by decide +kernel
theorem dX2_quotientOf_40 : decode cX2_quotientOf 40 = .ok (.lload 9, 2) := by decide +kernel
theorem dX2_quotientOf_42 : decode cX2_quotientOf 42 = .ok (.lload_n 2, 1) := by decide +kernel
theorem dX2_quotientOf_43 : decode cX2_quotientOf 43 = .ok (.ldiv, 1) := by decide +kernel
theorem dX2_quotientOf_44 : decode cX2_quotientOf 44 = .ok (.ladd, 1) := by decide +kernel
theorem dX2_quotientOf_45 : decode cX2_quotientOf 45 = .ok (.lstore 4, 2) := by decide +kernel
theorem dX2_quotientOf_47 : decode cX2_quotientOf 47 = .ok (.lload 9, 2) := by decide +kernel
theorem dX2_quotientOf_49 : decode cX2_quotientOf 49 = .ok (.lload_n 2, 1) := by decide +kernel
theorem dX2_quotientOf_50 : decode cX2_quotientOf 50 = .ok (.lrem, 1) := by decide +kernel
theorem dX2_quotientOf_51 : decode cX2_quotientOf 51 = .ok (.lstore 6, 2) := by decide +kernel
theorem dX2_quotientOf_53 : decode cX2_quotientOf 53 = .ok (.iinc 8 1, 3) := by decide +kernel
theorem dX2_quotientOf_56 : decode cX2_quotientOf 56 = .ok (.goto (-35), 3) := by decide +kernel
theorem dX2_quotientOf_59 : decode cX2_quotientOf 59 = .ok (.lload 6, 2) := by decide +kernel
theorem dX2_quotientOf_61 : decode cX2_quotientOf 61 = .ok (.lconst 0, 1) := by decide +kernel
theorem dX2_quotientOf_62 : decode cX2_quotientOf 62 = .ok (.lcmp, 1) := by decide +kernel
theorem dX2_quotientOf_63 : decode cX2_quotientOf 63 = .ok (.ifCond .ne 8, 3) := by decide +kernel
theorem dX2_quotientOf_66 : decode cX2_quotientOf 66 = .ok (.lload 4, 2) := by decide +kernel
theorem dX2_quotientOf_68 : decode cX2_quotientOf 68 = .ok (.goto 7, 3) := by decide +kernel
theorem dX2_quotientOf_71 : decode cX2_quotientOf 71 = .ok (.lload 4, 2) := by decide +kernel
theorem dX2_quotientOf_73 : decode cX2_quotientOf 73 = .ok (.lconst 1, 1) := by decide +kernel
theorem dX2_quotientOf_74 : decode cX2_quotientOf 74 = .ok (.lor, 1) := by decide +kernel
theorem dX2_quotientOf_75 : decode cX2_quotientOf 75 = .ok (.lreturn, 1) := by decide +kernel
theorem dX2_remainder_0 : decode cX2_remainder 0 = .ok (.aload_n 0, 1) := by decide +kernel
theorem dX2_remainder_1 : decode cX2_remainder 1 = .ok (.lload_n 3, 1) := by decide +kernel
theorem dX2_remainder_2 : decode cX2_remainder 2 = .ok (.invokevirtual 80, 3) := by decide +kernel
theorem dX2_remainder_5 : decode cX2_remainder 5 = .ok (.lstore 5, 2) := by decide +kernel
theorem dX2_remainder_7 : decode cX2_remainder 7 = .ok (.aload_n 0, 1) := by decide +kernel
theorem dX2_remainder_8 : decode cX2_remainder 8 = .ok (.lload_n 1, 1) := by decide +kernel
theorem dX2_remainder_9 : decode cX2_remainder 9 = .ok (.invokevirtual 74, 3) := by decide +kernel
theorem dX2_remainder_12 : decode cX2_remainder 12 = .ok (.ifCond .ne 10, 3) := by decide +kernel
theorem dX2_remainder_15 : decode cX2_remainder 15 = .ok (.lload 5, 2) := by decide +kernel
theorem dX2_remainder_17 : decode cX2_remainder 17 = .ok (.lconst 0, 1) := by decide +kernel
theorem dX2_remainder_18 : decode cX2_remainder 18 = .ok (.lcmp, 1) := by decide +kernel
theorem dX2_remainder_19 : decode cX2_remainder 19 = .ok (.ifCond .ne 8, 3) := by decide +kernel
theorem dX2_remainder_22 : decode cX2_remainder 22 = .ok (.aload_n 0, 1) := by decide +kernel
theorem dX2_remainder_23 : decode cX2_remainder 23 = .ok (.getfield 21, 3) := by decide +kernel
theorem dX2_remainder_26 : decode cX2_remainder 26 = .ok (.lreturn, 1) := by decide +kernel
theorem dX2_remainder_27 : decode cX2_remainder 27 = .ok (.aload_n 0, 1) := by decide +kernel
theorem dX2_remainder_28 : decode cX2_remainder 28 = .ok (.lload_n 3, 1) := by decide +kernel
theorem dX2_remainder_29 : decode cX2_remainder 29 = .ok (.invokevirtual 74, 3) := by decide +kernel
theorem dX2_remainder_32 : decode cX2_remainder 32 = .ok (.ifCond .ne 17, 3) := by decide +kernel
theorem dX2_remainder_35 : decode cX2_remainder 35 = .ok (.aload_n 0, 1) := by decide +kernel
theorem dX2_remainder_36 : decode cX2_remainder 36 = .ok (.lload_n 1, 1) := by decide +kernel
theorem dX2_remainder_37 : decode cX2_remainder 37 = .ok (.invokevirtual 25, 3) := by decide +kernel
theorem dX2_remainder_40 : decode cX2_remainder 40 = .ok (.aload_n 0, 1) := by decide +kernel
theorem dX2_remainder_41 : decode cX2_remainder 41 = .ok (.lload_n 3, 1) := by decide +kernel
theorem dX2_remainder_42 : decode cX2_remainder 42 = .ok (.invokevirtual 25, 3) := by decide +kernel
theorem dX2_remainder_45 : decode cX2_remainder 45 = .ok (.lcmp, 1) := by decide +kernel
theorem dX2_remainder_46 : decode cX2_remainder 46 = .ok (.ifCond .ge 5, 3) := by decide +kernel
theorem dX2_remainder_49 : decode cX2_remainder 49 = .ok (.lload_n 1, 1) := by decide +kernel
theorem dX2_remainder_50 : decode cX2_remainder 50 = .ok (.lreturn, 1) := by decide +kernel
theorem dX2_remainder_51 : decode cX2_remainder 51 = .ok (.aload_n 0, 1) := by decide +kernel
theorem dX2_remainder_52 : decode cX2_remainder 52 = .ok (.lload_n 1, 1) := by decide +kernel
theorem dX2_remainder_53 : decode cX2_remainder 53 = .ok (.invokevirtual 80, 3) := by decide +kernel
theorem dX2_remainder_56 : decode cX2_remainder 56 = .ok (.lload 5, 2) := by decide +kernel
theorem dX2_remainder_58 : decode cX2_remainder 58 = .ok (.lrem, 1) := by decide +kernel
theorem dX2_remainder_59 : decode cX2_remainder 59 = .ok (.lstore 7, 2) := by decide +kernel
theorem dX2_remainder_61 : decode cX2_remainder 61 = .ok (.aload_n 0, 1) := by decide +kernel
theorem dX2_remainder_62 : decode cX2_remainder 62 = .ok (.lload_n 1, 1) := by decide +kernel
theorem dX2_remainder_63 : decode cX2_remainder 63 = .ok (.invokevirtual 83, 3) := by decide +kernel
theorem dX2_remainder_66 : decode cX2_remainder 66 = .ok (.aload_n 0, 1) := by decide +kernel
theorem dX2_remainder_67 : decode cX2_remainder 67 = .ok (.lload_n 3, 1) := by decide +kernel
theorem dX2_remainder_68 : decode cX2_remainder 68 = .ok (.invokevirtual 83, 3) := by decide +kernel
theorem dX2_remainder_71 : decode cX2_remainder 71 = .ok (.isub, 1) := by decide +kernel
theorem dX2_remainder_72 : decode cX2_remainder 72 = .ok (.istore 9, 2) := by decide +kernel
theorem dX2_remainder_74 : decode cX2_remainder 74 = .ok (.iload 9, 2) := by decide +kernel
theorem dX2_remainder_76 : decode cX2_remainder 76 = .ok (.istore 10, 2) := by decide +kernel
theorem dX2_remainder_78 : decode cX2_remainder 78 = .ok (.iload 10, 2) := by decide +kernel
theorem dX2_remainder_80 : decode cX2_remainder 80 = .ok (.ifCond .le 24, 3) := by decide +kernel
theorem dX2_remainder_83 : decode cX2_remainder 83 = .ok (.lload 7, 2) := by decide +kernel
theorem dX2_remainder_85 : decode cX2_remainder 85 = .ok (.iload 10, 2) := by decide +kernel
theorem dX2_remainder_87 : decode cX2_remainder 87 = .ok (.bipush 10, 2) := by decide +kernel
theorem dX2_remainder_89 : decode cX2_remainder 89 = .ok (.invokestatic 87, 3) := by decide +kernel
theorem dX2_remainder_92 : decode cX2_remainder 92 = .ok (.lshl, 1) := by decide +kernel
theorem dX2_remainder_93 : decode cX2_remainder 93 = .ok (.lload 5, 2) := by decide +kernel
theorem dX2_remainder_95 : decode cX2_remainder 95 = .ok (.lrem, 1) := by decide +kernel
theorem dX2_remainder_96 : decode cX2_remainder 96 = .ok (.lstore 7, 2) := by decide +kernel
theorem dX2_remainder_98 : decode cX2_remainder 98 = .ok (.iinc 10 (-10), 3) := by decide +kernel
theorem dX2_remainder_101 : decode cX2_remainder 101 = .ok (.goto (-23), 3) := by decide +kernel
theorem dX2_remainder_104 : decode cX2_remainder 104 = .ok (.aload_n 0, 1) := by decide +kernel
theorem dX2_remainder_105 : decode cX2_remainder 105 = .ok (.aload_n 0, 1) := by decide +kernel
theorem dX2_remainder_106 : decode cX2_remainder 106 = .ok (.lload_n 1, 1) := by decide +kernel
theorem dX2_remainder_107 : decode cX2_remainder 107 = .ok (.invokevirtual 40, 3) := by decide +kernel
theorem dX2_remainder_110 : decode cX2_remainder 110 = .ok (.lload 7, 2) := by decide +kernel
theorem dX2_remainder_112 : decode cX2_remainder 112 = .ok (.aload_n 0, 1) := by decide +kernel
theorem dX2_remainder_113 : decode cX2_remainder 113 = .ok (.lload_n 3, 1) := by decide +kernel
theorem dX2_remainder_114 : decode cX2_remainder 114 = .ok (.invokevirtual 83, 3) := by decide +kernel
theorem dX2_remainder_117 : decode cX2_remainder 117 = .ok (.invokevirtual 70, 3) := by decide +kernel
theorem dX2_remainder_120 : decode cX2_remainder 120 = .ok (.lreturn, 1) := by decide +kernel
theorem dX3_init_0 : decode cX3_init 0 = .ok (.aload_n 0, 1) := by decide +kernel
theorem dX3_init_1 : decode cX3_init 1 = .ok (.invokespecial 3, 3) := by decide +kernel
theorem dX3_init_4 : decode cX3_init 4 = .ok (.aload_n 0, 1) := by decide +kernel
theorem dX3_init_5 : decode cX3_init 5 = .ok (.aload_n 1, 1) := by decide +kernel
theorem dX3_init_6 : decode cX3_init 6 = .ok (.putfield 9, 3) := by decide +kernel
theorem dX3_init_9 : decode cX3_init 9 = .ok (.aload_n 0, 1) := by decide +kernel
theorem dX3_init_10 : decode cX3_init 10 = .ok (.iload_n 2, 1) := by decide +kernel
theorem dX3_init_11 : decode cX3_init 11 = .ok (.newarray .long, 2) := by decide +kernel
theorem dX3_init_13 : decode cX3_init 13 = .ok (.putfield 15, 3) := by decide +kernel
theorem dX3_init_16 : decode cX3_init 16 = .ok (.return_, 1) := by decide +kernel
theorem dX3_has_0 : decode cX3_has 0 = .ok (.iload_n 1, 1) := by decide +kernel
theorem dX3_has_1 : decode cX3_has 1 = .ok (.ifCond .lt 16, 3) := by decide +kernel
theorem dX3_has_4 : decode cX3_has 4 = .ok (.iload_n 1, 1) := by decide +kernel
theorem dX3_has_5 : decode cX3_has 5 = .ok (.aload_n 0, 1) := by decide +kernel
theorem dX3_has_6 : decode cX3_has 6 = .ok (.getfield 15, 3) := by decide +kernel
theorem dX3_has_9 : decode cX3_has 9 = .ok (.arraylength, 1) := by decide +kernel
theorem dX3_has_10 : decode cX3_has 10 = .ok (.if_icmp .ge 7, 3) := by decide +kernel
theorem dX3_has_13 : decode cX3_has 13 = .ok (.iconst 1, 1) := by decide +kernel
theorem dX3_has_14 : decode cX3_has 14 = .ok (.goto 4, 3) := by decide +kernel
theorem dX3_has_17 : decode cX3_has 17 = .ok (.iconst 0, 1) := by decide +kernel
theorem dX3_has_18 : decode cX3_has 18 = .ok (.ireturn, 1) := by decide +kernel
theorem dX3_hasPair_0 : decode cX3_hasPair 0 = .ok (.iload_n 1, 1) := by decide +kernel
theorem dX3_hasPair_1 : decode cX3_hasPair 1 = .ok (.ifCond .lt 18, 3) := by decide +kernel
theorem dX3_hasPair_4 : decode cX3_hasPair 4 = .ok (.iload_n 1, 1) := by decide +kernel
theorem dX3_hasPair_5 : decode cX3_hasPair 5 = .ok (.aload_n 0, 1) := by decide +kernel
theorem dX3_hasPair_6 : decode cX3_hasPair 6 = .ok (.getfield 15, 3) := by decide +kernel
theorem dX3_hasPair_9 : decode cX3_hasPair 9 = .ok (.arraylength, 1) := by decide +kernel
theorem dX3_hasPair_10 : decode cX3_hasPair 10 = .ok (.iconst 2, 1) := by decide +kernel
theorem dX3_hasPair_11 : decode cX3_hasPair 11 = .ok (.idiv, 1) := by decide +kernel
theorem dX3_hasPair_12 : decode cX3_hasPair 12 = .ok (.if_icmp .ge 7, 3) := by decide +kernel
theorem dX3_hasPair_15 : decode cX3_hasPair 15 = .ok (.iconst 1, 1) := by decide +kernel
theorem dX3_hasPair_16 : decode cX3_hasPair 16 = .ok (.goto 4, 3) := by decide +kernel
theorem dX3_hasPair_19 : decode cX3_hasPair 19 = .ok (.iconst 0, 1) := by decide +kernel
theorem dX3_hasPair_20 : decode cX3_hasPair 20 = .ok (.ireturn, 1) := by decide +kernel
theorem dX3_put_0 : decode cX3_put 0 = .ok (.aload_n 0, 1) := by decide +kernel
theorem dX3_put_1 : decode cX3_put 1 = .ok (.getfield 15, 3) := by decide +kernel
theorem dX3_put_4 : decode cX3_put 4 = .ok (.iload_n 1, 1) := by decide +kernel
theorem dX3_put_5 : decode cX3_put 5 = .ok (.lload_n 2, 1) := by decide +kernel
theorem dX3_put_6 : decode cX3_put 6 = .ok (.lastore, 1) := by decide +kernel
theorem dX3_put_7 : decode cX3_put 7 = .ok (.aload_n 0, 1) := by decide +kernel
theorem dX3_put_8 : decode cX3_put 8 = .ok (.getfield 9, 3) := by decide +kernel
theorem dX3_put_11 : decode cX3_put 11 = .ok (.lload_n 2, 1) := by decide +kernel
theorem dX3_put_12 : decode cX3_put 12 = .ok (.invokevirtual 19, 3) := by decide +kernel
theorem dX3_put_15 : decode cX3_put 15 = .ok (.ireturn, 1) := by decide +kernel
theorem dX3_pair_0 : decode cX3_pair 0 = .ok (.new 25, 3) := by decide +kernel
theorem dX3_pair_3 : decode cX3_pair 3 = .ok (.dup, 1) := by decide +kernel
theorem dX3_pair_4 : decode cX3_pair 4 = .ok (.aload_n 0, 1) := by decide +kernel
theorem dX3_pair_5 : decode cX3_pair 5 = .ok (.getfield 9, 3) := by decide +kernel
theorem dX3_pair_8 : decode cX3_pair 8 = .ok (.aload_n 0, 1) := by decide +kernel
theorem dX3_pair_9 : decode cX3_pair 9 = .ok (.getfield 15, 3) := by decide +kernel
theorem dX3_pair_12 : decode cX3_pair 12 = .ok (.iconst 2, 1) := by decide +kernel
theorem dX3_pair_13 : decode cX3_pair 13 = .ok (.iload_n 1, 1) := by decide +kernel
theorem dX3_pair_14 : decode cX3_pair 14 = .ok (.imul, 1) := by decide +kernel
theorem dX3_pair_15 : decode cX3_pair 15 = .ok (.laload, 1) := by decide +kernel
theorem dX3_pair_16 : decode cX3_pair 16 = .ok (.aload_n 0, 1) := by decide +kernel
theorem dX3_pair_17 : decode cX3_pair 17 = .ok (.getfield 15, 3) := by decide +kernel
theorem dX3_pair_20 : decode cX3_pair 20 = .ok (.iconst 2, 1) := by decide +kernel
theorem dX3_pair_21 : decode cX3_pair 21 = .ok (.iload_n 1, 1) := by decide +kernel
theorem dX3_pair_22 : decode cX3_pair 22 = .ok (.imul, 1) := by decide +kernel
theorem dX3_pair_23 : decode cX3_pair 23 = .ok (.iconst 1, 1) := by decide +kernel
theorem dX3_pair_24 : decode cX3_pair 24 = .ok (.iadd, 1) := by decide +kernel
theorem dX3_pair_25 : decode cX3_pair 25 = .ok (.laload, 1) := by decide +kernel
theorem dX3_pair_26 : decode cX3_pair 26 = .ok (.invokespecial 27, 3) := by decide +kernel
theorem dX3_pair_29 : decode cX3_pair 29 = .ok (.areturn, 1) := by decide +kernel
theorem dX3_putPair_0 : decode cX3_putPair 0 = .ok (.aload_n 0, 1) := by decide +kernel
theorem dX3_putPair_1 : decode cX3_putPair 1 = .ok (.getfield 15, 3) := by decide +kernel
theorem dX3_putPair_4 : decode cX3_putPair 4 = .ok (.iconst 2, 1) := by decide +kernel
theorem dX3_putPair_5 : decode cX3_putPair 5 = .ok (.iload_n 1, 1) := by decide +kernel
theorem dX3_putPair_6 : decode cX3_putPair 6 = .ok (.imul, 1) := by decide +kernel
theorem dX3_putPair_7 : decode cX3_putPair 7 = .ok (.aload_n 2, 1) := by decide +kernel
theorem dX3_putPair_8 : decode cX3_putPair 8 = .ok (.getfield 30, 3) := by decide +kernel
theorem dX3_putPair_11 : decode cX3_putPair 11 = .ok (.lastore, 1) := by decide +kernel
theorem dX3_putPair_12 : decode cX3_putPair 12 = .ok (.aload_n 0, 1) := by decide +kernel
theorem dX3_putPair_13 : decode cX3_putPair 13 = .ok (.getfield 15, 3) := by decide +kernel
theorem dX3_putPair_16 : decode cX3_putPair 16 = .ok (.iconst 2, 1) := by decide +kernel
theorem dX3_putPair_17 : decode cX3_putPair 17 = .ok (.iload_n 1, 1) := by decide +kernel
theorem dX3_putPair_18 : decode cX3_putPair 18 = .ok (.imul, 1) := by decide +kernel
theorem dX3_putPair_19 : decode cX3_putPair 19 = .ok (.iconst 1, 1) := by decide +kernel
theorem dX3_putPair_20 : decode cX3_putPair 20 = .ok (.iadd, 1) := by decide +kernel
theorem dX3_putPair_21 : decode cX3_putPair 21 = .ok (.aload_n 2, 1) := by decide +kernel
theorem dX3_putPair_22 : decode cX3_putPair 22 = .ok (.getfield 34, 3) := by decide +kernel
theorem dX3_putPair_25 : decode cX3_putPair 25 = .ok (.lastore, 1) := by decide +kernel
theorem dX3_putPair_26 : decode cX3_putPair 26 = .ok (.return_, 1) := by decide +kernel
theorem dX3_firstExtreme_0 : decode cX3_firstExtreme 0 = .ok (.iconst (-1), 1) := by decide +kernel
theorem dX3_firstExtreme_1 : decode cX3_firstExtreme 1 = .ok (.istore_n 2, 1) := by decide +kernel
theorem dX3_firstExtreme_2 : decode cX3_firstExtreme 2 = .ok (.iconst 0, 1) := by decide +kernel
theorem dX3_firstExtreme_3 : decode cX3_firstExtreme 3 = .ok (.istore_n 3, 1) := by decide +kernel
theorem dX3_firstExtreme_4 : decode cX3_firstExtreme 4 = .ok (.iload_n 3, 1) := by decide +kernel
theorem dX3_firstExtreme_5 : decode cX3_firstExtreme 5 = .ok (.aload_n 0, 1) := by decide +kernel
theorem dX3_firstExtreme_6 : decode cX3_firstExtreme 6 = .ok (.getfield 15, 3) := by decide +kernel
theorem dX3_firstExtreme_9 : decode cX3_firstExtreme 9 = .ok (.arraylength, 1) := by decide +kernel
theorem dX3_firstExtreme_10 : decode cX3_firstExtreme 10 = .ok (.if_icmp .ge 55, 3) := by decide +kernel
theorem dX3_firstExtreme_13 : decode cX3_firstExtreme 13 = .ok (.aload_n 0, 1) := by decide +kernel
theorem dX3_firstExtreme_14 : decode cX3_firstExtreme 14 = .ok (.getfield 15, 3) := by decide +kernel
theorem dX3_firstExtreme_17 : decode cX3_firstExtreme 17 = .ok (.iload_n 3, 1) := by decide +kernel
theorem dX3_firstExtreme_18 : decode cX3_firstExtreme 18 = .ok (.laload, 1) := by decide +kernel
theorem dX3_firstExtreme_19 : decode cX3_firstExtreme 19 = .ok (.lstore 4, 2) := by decide +kernel
theorem dX3_firstExtreme_21 : decode cX3_firstExtreme 21 = .ok (.aload_n 0, 1) := by decide +kernel
theorem dX3_firstExtreme_22 : decode cX3_firstExtreme 22 = .ok (.getfield 9, 3) := by decide +kernel
theorem dX3_firstExtreme_25 : decode cX3_firstExtreme 25 = .ok (.lload 4, 2) := by decide +kernel
theorem dX3_firstExtreme_27 : decode cX3_firstExtreme 27 = .ok (.invokevirtual 37, 3) := by decide +kernel
theorem dX3_firstExtreme_30 : decode cX3_firstExtreme 30 = .ok (.ifCond .eq 6, 3) := by decide +kernel
theorem dX3_firstExtreme_33 : decode cX3_firstExtreme 33 = .ok (.goto 26, 3) := by decide +kernel
theorem dX3_firstExtreme_36 : decode cX3_firstExtreme 36 = .ok (.iload_n 2, 1) := by decide +kernel
theorem dX3_firstExtreme_37 : decode cX3_firstExtreme 37 = .ok (.iconst (-1), 1) := by decide +kernel
theorem dX3_firstExtreme_38 : decode cX3_firstExtreme 38 = .ok (.if_icmp .eq 19, 3) := by decide +kernel
theorem dX3_firstExtreme_41 : decode cX3_firstExtreme 41 = .ok (.aload_n 0, 1) := by decide +kernel
theorem dX3_firstExtreme_42 : decode cX3_firstExtreme 42 = .ok (.lload 4, 2) := by decide +kernel
theorem dX3_firstExtreme_44 : decode cX3_firstExtreme 44 = .ok (.aload_n 0, 1) := by decide +kernel
theorem dX3_firstExtreme_45 : decode cX3_firstExtreme 45 = .ok (.getfield 15, 3) := by decide +kernel
theorem dX3_firstExtreme_48 : decode cX3_firstExtreme 48 = .ok (.iload_n 2, 1) := by decide +kernel
theorem dX3_firstExtreme_49 : decode cX3_firstExtreme 49 = .ok (.laload, 1) := by decide +kernel
theorem dX3_firstExtreme_50 : decode cX3_firstExtreme 50 = .ok (.iload_n 1, 1) := by decide +kernel
theorem dX3_firstExtreme_51 : decode cX3_firstExtreme 51 = .ok (.invokevirtual 41, 3) := by decide +kernel
theorem dX3_firstExtreme_54 : decode cX3_firstExtreme 54 = .ok (.ifCond .eq 5, 3) := by decide +kernel
theorem dX3_firstExtreme_57 : decode cX3_firstExtreme 57 = .ok (.iload_n 3, 1) := by decide +kernel
theorem dX3_firstExtreme_58 : decode cX3_firstExtreme 58 = .ok (.istore_n 2, 1) := by decide +kernel
theorem dX3_firstExtreme_59 : decode cX3_firstExtreme 59 = .ok (.iinc 3 1, 3) := by decide +kernel
theorem dX3_firstExtreme_62 : decode cX3_firstExtreme 62 = .ok (.goto (-58), 3) := by decide +kernel
theorem dX3_firstExtreme_65 : decode cX3_firstExtreme 65 = .ok (.iload_n 2, 1) := by decide +kernel
theorem dX3_firstExtreme_66 : decode cX3_firstExtreme 66 = .ok (.ireturn, 1) := by decide +kernel
theorem dX3_isBeyond_0 : decode cX3_isBeyond 0 = .ok (.iload 5, 2) := by decide +kernel
theorem dX3_isBeyond_2 : decode cX3_isBeyond 2 = .ok (.ifCond .eq 15, 3) := by decide +kernel
theorem dX3_isBeyond_5 : decode cX3_isBeyond 5 = .ok (.aload_n 0, 1) := by decide +kernel
theorem dX3_isBeyond_6 : decode cX3_isBeyond 6 = .ok (.getfield 9, 3) := by decide +kernel
theorem dX3_isBeyond_9 : decode cX3_isBeyond 9 = .ok (.lload_n 3, 1) := by decide +kernel
theorem dX3_isBeyond_10 : decode cX3_isBeyond 10 = .ok (.lload_n 1, 1) := by decide +kernel
theorem dX3_isBeyond_11 : decode cX3_isBeyond 11 = .ok (.invokevirtual 45, 3) := by decide +kernel
theorem dX3_isBeyond_14 : decode cX3_isBeyond 14 = .ok (.goto 12, 3) := by decide +kernel
theorem dX3_isBeyond_17 : decode cX3_isBeyond 17 = .ok (.aload_n 0, 1) := by decide +kernel
theorem dX3_isBeyond_18 : decode cX3_isBeyond 18 = .ok (.getfield 9, 3) := by decide +kernel
theorem dX3_isBeyond_21 : decode cX3_isBeyond 21 = .ok (.lload_n 1, 1) := by decide +kernel
theorem dX3_isBeyond_22 : decode cX3_isBeyond 22 = .ok (.lload_n 3, 1) := by decide +kernel
theorem dX3_isBeyond_23 : decode cX3_isBeyond 23 = .ok (.invokevirtual 45, 3) := by decide +kernel
theorem dX3_isBeyond_26 : decode cX3_isBeyond 26 = .ok (.ireturn, 1) := by decide +kernel
theorem dX3_isSorted_0 : decode cX3_isSorted 0 = .ok (.iconst 1, 1) := by decide +kernel
theorem dX3_isSorted_1 : decode cX3_isSorted 1 = .ok (.istore_n 1, 1) := by decide +kernel
theorem dX3_isSorted_2 : decode cX3_isSorted 2 = .ok (.iload_n 1, 1) := by decide +kernel
theorem dX3_isSorted_3 : decode cX3_isSorted 3 = .ok (.aload_n 0, 1) := by decide +kernel
theorem dX3_isSorted_4 : decode cX3_isSorted 4 = .ok (.getfield 15, 3) := by decide +kernel
theorem dX3_isSorted_7 : decode cX3_isSorted 7 = .ok (.arraylength, 1) := by decide +kernel
theorem dX3_isSorted_8 : decode cX3_isSorted 8 = .ok (.if_icmp .ge 43, 3) := by decide +kernel
theorem dX3_isSorted_11 : decode cX3_isSorted 11 = .ok (.aload_n 0, 1) := by decide +kernel
theorem dX3_isSorted_12 : decode cX3_isSorted 12 = .ok (.getfield 9, 3) := by decide +kernel
theorem dX3_isSorted_15 : decode cX3_isSorted 15 = .ok (.aload_n 0, 1) := by decide +kernel
theorem dX3_isSorted_16 : decode cX3_isSorted 16 = .ok (.getfield 15, 3) := by decide +kernel
theorem dX3_isSorted_19 : decode cX3_isSorted 19 = .ok (.iload_n 1, 1) := by decide +kernel
theorem dX3_isSorted_20 : decode cX3_isSorted 20 = .ok (.iconst 1, 1) := by decide +kernel
theorem dX3_isSorted_21 : decode cX3_isSorted 21 = .ok (.isub, 1) := by decide +kernel
theorem dX3_isSorted_22 : decode cX3_isSorted 22 = .ok (.laload, 1) := by decide +kernel
theorem dX3_isSorted_23 : decode cX3_isSorted 23 = .ok (.invokevirtual 49, 3) := by decide +kernel
theorem dX3_isSorted_26 : decode cX3_isSorted 26 = .ok (.aload_n 0, 1) := by decide +kernel
theorem dX3_isSorted_27 : decode cX3_isSorted 27 = .ok (.getfield 9, 3) := by decide +kernel
theorem dX3_isSorted_30 : decode cX3_isSorted 30 = .ok (.aload_n 0, 1) := by decide +kernel
theorem dX3_isSorted_31 : decode cX3_isSorted 31 = .ok (.getfield 15, 3) := by decide +kernel
theorem dX3_isSorted_34 : decode cX3_isSorted 34 = .ok (.iload_n 1, 1) := by decide +kernel
theorem dX3_isSorted_35 : decode cX3_isSorted 35 = .ok (.laload, 1) := by decide +kernel
theorem dX3_isSorted_36 : decode cX3_isSorted 36 = .ok (.invokevirtual 49, 3) := by decide +kernel
theorem dX3_isSorted_39 : decode cX3_isSorted 39 = .ok (.lcmp, 1) := by decide +kernel
theorem dX3_isSorted_40 : decode cX3_isSorted 40 = .ok (.ifCond .le 5, 3) := by decide +kernel
theorem dX3_isSorted_43 : decode cX3_isSorted 43 = .ok (.iconst 0, 1) := by decide +kernel
theorem dX3_isSorted_44 : decode cX3_isSorted 44 = .ok (.ireturn, 1) := by decide +kernel
theorem dX3_isSorted_45 : decode cX3_isSorted 45 = .ok (.iinc 1 1, 3) := by decide +kernel
theorem dX3_isSorted_48 : decode cX3_isSorted 48 = .ok (.goto (-46), 3) := by decide +kernel
theorem dX3_isSorted_51 : decode cX3_isSorted 51 = .ok (.iconst 1, 1) := by decide +kernel
theorem dX3_isSorted_52 : decode cX3_isSorted 52 = .ok (.ireturn, 1) := by decide +kernel
theorem dX3_firstWith_0 : decode cX3_firstWith 0 = .ok (.iconst 0, 1) := by decide +kernel
theorem dX3_firstWith_1 : decode cX3_firstWith 1 = .ok (.istore_n 3, 1) := by decide +kernel
theorem dX3_firstWith_2 : decode cX3_firstWith 2 = .ok (.iload_n 3, 1) := by decide +kernel
theorem dX3_firstWith_3 : decode cX3_firstWith 3 = .ok (.aload_n 0, 1) := by decide +kernel
theorem dX3_firstWith_4 : decode cX3_firstWith 4 = .ok (.getfield 15, 3) := by decide +kernel
theorem dX3_firstWith_7 : decode cX3_firstWith 7 = .ok (.arraylength, 1) := by decide +kernel
theorem dX3_firstWith_8 : decode cX3_firstWith 8 = .ok (.if_icmp .ge 22, 3) := by decide +kernel
theorem dX3_firstWith_11 : decode cX3_firstWith 11 = .ok (.aload_n 0, 1) := by decide +kernel
theorem dX3_firstWith_12 : decode cX3_firstWith 12 = .ok (.getfield 15, 3) := by decide +kernel
theorem dX3_firstWith_15 : decode cX3_firstWith 15 = .ok (.iload_n 3, 1) := by decide +kernel
theorem dX3_firstWith_16 : decode cX3_firstWith 16 = .ok (.laload, 1) := by decide +kernel
theorem dX3_firstWith_17 : decode cX3_firstWith 17 = .ok (.lload_n 1, 1) := by decide +kernel
theorem dX3_firstWith_18 : decode cX3_firstWith 18 = .ok (.lcmp, 1) := by decide +kernel
theorem dX3_firstWith_19 : decode cX3_firstWith 19 = .ok (.ifCond .ne 5, 3) := by decide +kernel
theorem dX3_firstWith_22 : decode cX3_firstWith 22 = .ok (.iload_n 3, 1) := by decide +kernel
theorem dX3_firstWith_23 : decode cX3_firstWith 23 = .ok (.ireturn, 1) := by decide +kernel
theorem dX3_firstWith_24 : decode cX3_firstWith 24 = .ok (.iinc 3 1, 3) := by decide +kernel
theorem dX3_firstWith_27 : decode cX3_firstWith 27 = .ok (.goto (-25), 3) := by decide +kernel
theorem dX3_firstWith_30 : decode cX3_firstWith 30 = .ok (.iconst (-1), 1) := by decide +kernel
theorem dX3_firstWith_31 : decode cX3_firstWith 31 = .ok (.ireturn, 1) := by decide +kernel
theorem dX4_init_0 : decode cX4_init 0 = .ok (.aload_n 0, 1) := by decide +kernel
theorem dX4_init_1 : decode cX4_init 1 = .ok (.invokespecial 3, 3) := by decide +kernel
theorem dX4_init_4 : decode cX4_init 4 = .ok (.aload_n 0, 1) := by decide +kernel
theorem dX4_init_5 : decode cX4_init 5 = .ok (.sipush 500, 3) := by decide +kernel
theorem dX4_init_8 : decode cX4_init 8 = .ok (.newarray .long, 2) := by decide +kernel
theorem dX4_init_10 : decode cX4_init 10 = .ok (.putfield 9, 3) := by decide +kernel
theorem dX4_init_13 : decode cX4_init 13 = .ok (.aload_n 0, 1) := by decide +kernel
theorem dX4_init_14 : decode cX4_init 14 = .ok (.sipush 500, 3) := by decide +kernel
theorem dX4_init_17 : decode cX4_init 17 = .ok (.newarray .long, 2) := by decide +kernel
theorem dX4_init_19 : decode cX4_init 19 = .ok (.putfield 15, 3) := by decide +kernel
theorem dX4_init_22 : decode cX4_init 22 = .ok (.return_, 1) := by decide +kernel
theorem dX4_reorder_0 : decode cX4_reorder 0 = .ok (.aload_n 1, 1) := by decide +kernel
theorem dX4_reorder_1 : decode cX4_reorder 1 = .ok (.getfield 18, 3) := by decide +kernel
theorem dX4_reorder_4 : decode cX4_reorder 4 = .ok (.astore_n 3, 1) := by decide +kernel
theorem dX4_reorder_5 : decode cX4_reorder 5 = .ok (.aload_n 3, 1) := by decide +kernel
theorem dX4_reorder_6 : decode cX4_reorder 6 = .ok (.arraylength, 1) := by decide +kernel
theorem dX4_reorder_7 : decode cX4_reorder 7 = .ok (.istore 4, 2) := by decide +kernel
theorem dX4_reorder_9 : decode cX4_reorder 9 = .ok (.aload_n 3, 1) := by decide +kernel
theorem dX4_reorder_10 : decode cX4_reorder 10 = .ok (.iconst 0, 1) := by decide +kernel
theorem dX4_reorder_11 : decode cX4_reorder 11 = .ok (.aload_n 0, 1) := by decide +kernel
theorem dX4_reorder_12 : decode cX4_reorder 12 = .ok (.getfield 9, 3) := by decide +kernel
theorem dX4_reorder_15 : decode cX4_reorder 15 = .ok (.iconst 0, 1) := by decide +kernel
theorem dX4_reorder_16 : decode cX4_reorder 16 = .ok (.iload 4, 2) := by decide +kernel
theorem dX4_reorder_18 : decode cX4_reorder 18 = .ok (.invokestatic 23, 3) := by decide +kernel
theorem dX4_reorder_21 : decode cX4_reorder 21 = .ok (.iconst 1, 1) := by decide +kernel
theorem dX4_reorder_22 : decode cX4_reorder 22 = .ok (.istore 5, 2) := by decide +kernel
theorem dX4_reorder_24 : decode cX4_reorder 24 = .ok (.iload 5, 2) := by decide +kernel
theorem dX4_reorder_26 : decode cX4_reorder 26 = .ok (.iload 4, 2) := by decide +kernel
theorem dX4_reorder_28 : decode cX4_reorder 28 = .ok (.if_icmp .ge 84, 3) := by decide +kernel
theorem dX4_reorder_31 : decode cX4_reorder 31 = .ok (.iconst 0, 1) := by decide +kernel
theorem dX4_reorder_32 : decode cX4_reorder 32 = .ok (.istore 6, 2) := by decide +kernel
theorem dX4_reorder_34 : decode cX4_reorder 34 = .ok (.iload 6, 2) := by decide +kernel
theorem dX4_reorder_36 : decode cX4_reorder 36 = .ok (.iload 4, 2) := by decide +kernel
theorem dX4_reorder_38 : decode cX4_reorder 38 = .ok (.if_icmp .ge 53, 3) := by decide +kernel
theorem dX4_reorder_41 : decode cX4_reorder 41 = .ok (.iload 6, 2) := by decide +kernel
theorem dX4_reorder_43 : decode cX4_reorder 43 = .ok (.iload 5, 2) := by decide +kernel
theorem dX4_reorder_45 : decode cX4_reorder 45 = .ok (.iadd, 1) := by decide +kernel
theorem dX4_reorder_46 : decode cX4_reorder 46 = .ok (.iload 4, 2) := by decide +kernel
theorem dX4_reorder_48 : decode cX4_reorder 48 = .ok (.invokestatic 29, 3) := by decide +kernel
theorem dX4_reorder_51 : decode cX4_reorder 51 = .ok (.istore 7, 2) := by decide +kernel
theorem dX4_reorder_53 : decode cX4_reorder 53 = .ok (.iload 6, 2) := by decide +kernel
theorem dX4_reorder_55 : decode cX4_reorder 55 = .ok (.iconst 2, 1) := by decide +kernel
theorem dX4_reorder_56 : decode cX4_reorder 56 = .ok (.iload 5, 2) := by decide +kernel
theorem dX4_reorder_58 : decode cX4_reorder 58 = .ok (.imul, 1) := by decide +kernel
theorem dX4_reorder_59 : decode cX4_reorder 59 = .ok (.iadd, 1) := by decide +kernel
theorem dX4_reorder_60 : decode cX4_reorder 60 = .ok (.iload 4, 2) := by decide +kernel
theorem dX4_reorder_62 : decode cX4_reorder 62 = .ok (.invokestatic 29, 3) := by decide +kernel
theorem dX4_reorder_65 : decode cX4_reorder 65 = .ok (.istore 8, 2) := by decide +kernel
theorem dX4_reorder_67 : decode cX4_reorder 67 = .ok (.aload_n 0, 1) := by decide +kernel
theorem dX4_reorder_68 : decode cX4_reorder 68 = .ok (.aload_n 1, 1) := by decide +kernel
theorem dX4_reorder_69 : decode cX4_reorder 69 = .ok (.iload_n 2, 1) := by decide +kernel
theorem dX4_reorder_70 : decode cX4_reorder 70 = .ok (.iload 6, 2) := by decide +kernel
theorem dX4_reorder_72 : decode cX4_reorder 72 = .ok (.iload 7, 2) := by decide +kernel
theorem dX4_reorder_74 : decode cX4_reorder 74 = .ok (.iload 8, 2) := by decide +kernel
theorem dX4_reorder_76 : decode cX4_reorder 76 = .ok (.invokevirtual 35, 3) := by decide +kernel
theorem dX4_reorder_79 : decode cX4_reorder 79 = .ok (.iload 6, 2) := by decide +kernel
theorem dX4_reorder_81 : decode cX4_reorder 81 = .ok (.iconst 2, 1) := by decide +kernel
theorem dX4_reorder_82 : decode cX4_reorder 82 = .ok (.iload 5, 2) := by decide +kernel
theorem dX4_reorder_84 : decode cX4_reorder 84 = .ok (.imul, 1) := by decide +kernel
theorem dX4_reorder_85 : decode cX4_reorder 85 = .ok (.iadd, 1) := by decide +kernel
theorem dX4_reorder_86 : decode cX4_reorder 86 = .ok (.istore 6, 2) := by decide +kernel
theorem dX4_reorder_88 : decode cX4_reorder 88 = .ok (.goto (-54), 3) := by decide +kernel
theorem dX4_reorder_91 : decode cX4_reorder 91 = .ok (.aload_n 0, 1) := by decide +kernel
theorem dX4_reorder_92 : decode cX4_reorder 92 = .ok (.getfield 15, 3) := by decide +kernel
theorem dX4_reorder_95 : decode cX4_reorder 95 = .ok (.iconst 0, 1) := by decide +kernel
theorem dX4_reorder_96 : decode cX4_reorder 96 = .ok (.aload_n 3, 1) := by decide +kernel
theorem dX4_reorder_97 : decode cX4_reorder 97 = .ok (.iconst 0, 1) := by decide +kernel
theorem dX4_reorder_98 : decode cX4_reorder 98 = .ok (.iload 4, 2) := by decide +kernel
theorem dX4_reorder_100 : decode cX4_reorder 100 = .ok (.invokestatic 23, 3) := by decide +kernel
theorem dX4_reorder_103 : decode cX4_reorder 103 = .ok (.iload 5, 2) := by decide +kernel
theorem dX4_reorder_105 : decode cX4_reorder 105 = .ok (.iconst 2, 1) := by decide +kernel
theorem dX4_reorder_106 : decode cX4_reorder 106 = .ok (.imul, 1) := by decide +kernel
theorem dX4_reorder_107 : decode cX4_reorder 107 = .ok (.istore 5, 2) := by decide +kernel
theorem dX4_reorder_109 : decode cX4_reorder 109 = .ok (.goto (-85), 3) := by decide +kernel
theorem dX4_reorder_112 : decode cX4_reorder 112 = .ok (.aload_n 0, 1) := by decide +kernel
theorem dX4_reorder_113 : decode cX4_reorder 113 = .ok (.aload_n 3, 1) := by decide +kernel
theorem dX4_reorder_114 : decode cX4_reorder 114 = .ok (.invokevirtual 39, 3) := by decide +kernel
theorem dX4_reorder_117 : decode cX4_reorder 117 = .ok (.ireturn, 1) := by decide +kernel
theorem dX4_merge_0 : decode cX4_merge 0 = .ok (.aload_n 1, 1) := by decide +kernel
theorem dX4_merge_1 : decode cX4_merge 1 = .ok (.getfield 18, 3) := by decide +kernel
theorem dX4_merge_4 : decode cX4_merge 4 = .ok (.astore 6, 2) := by decide +kernel
theorem dX4_merge_6 : decode cX4_merge 6 = .ok (.iload_n 3, 1) := by decide +kernel
theorem dX4_merge_7 : decode cX4_merge 7 = .ok (.istore 7, 2) := by decide +kernel
theorem dX4_merge_9 : decode cX4_merge 9 = .ok (.iload 4, 2) := by decide +kernel
theorem dX4_merge_11 : decode cX4_merge 11 = .ok (.istore 8, 2) := by decide +kernel
theorem dX4_merge_13 : decode cX4_merge 13 = .ok (.iload_n 3, 1) := by decide +kernel
theorem dX4_merge_14 : decode cX4_merge 14 = .ok (.istore 9, 2) := by decide +kernel
theorem dX4_merge_16 : decode cX4_merge 16 = .ok (.iload 9, 2) := by decide +kernel
theorem dX4_merge_18 : decode cX4_merge 18 = .ok (.iload 5, 2) := by decide +kernel
theorem dX4_merge_20 : decode cX4_merge 20 = .ok (.if_icmp .ge 98, 3) := by decide +kernel
theorem dX4_merge_23 : decode cX4_merge 23 = .ok (.iload 8, 2) := by decide +kernel
theorem dX4_merge_25 : decode cX4_merge 25 = .ok (.iload 5, 2) := by decide +kernel
theorem dX4_merge_27 : decode cX4_merge 27 = .ok (.if_icmp .ge 40, 3) := by decide +kernel
theorem dX4_merge_30 : decode cX4_merge 30 = .ok (.iload 7, 2) := by decide +kernel
theorem dX4_merge_32 : decode cX4_merge 32 = .ok (.iload 4, 2) := by decide +kernel
theorem dX4_merge_34 : decode cX4_merge 34 = .ok (.if_icmp .ge 37, 3) := by decide +kernel
theorem dX4_merge_37 : decode cX4_merge 37 = .ok (.aload_n 1, 1) := by decide +kernel
theorem dX4_merge_38 : decode cX4_merge 38 = .ok (.getfield 43, 3) := by decide +kernel
theorem dX4_merge_41 : decode cX4_merge 41 = .ok (.iload_n 2, 1) := by decide +kernel
theorem dX4_merge_42 : decode cX4_merge 42 = .ok (.aload 6, 2) := by decide +kernel
theorem dX4_merge_44 : decode cX4_merge 44 = .ok (.iload 7, 2) := by decide +kernel
theorem dX4_merge_46 : decode cX4_merge 46 = .ok (.laload, 1) := by decide +kernel
theorem dX4_merge_47 : decode cX4_merge 47 = .ok (.invokestatic 47, 3) := by decide +kernel
theorem dX4_merge_50 : decode cX4_merge 50 = .ok (.aload_n 1, 1) := by decide +kernel
theorem dX4_merge_51 : decode cX4_merge 51 = .ok (.getfield 43, 3) := by decide +kernel
theorem dX4_merge_54 : decode cX4_merge 54 = .ok (.iload_n 2, 1) := by decide +kernel
theorem dX4_merge_55 : decode cX4_merge 55 = .ok (.aload 6, 2) := by decide +kernel
theorem dX4_merge_57 : decode cX4_merge 57 = .ok (.iload 8, 2) := by decide +kernel
theorem dX4_merge_59 : decode cX4_merge 59 = .ok (.laload, 1) := by decide +kernel
theorem dX4_merge_60 : decode cX4_merge 60 = .ok (.invokestatic 47, 3) := by decide +kernel
theorem dX4_merge_63 : decode cX4_merge 63 = .ok (.lcmp, 1) := by decide +kernel
theorem dX4_merge_64 : decode cX4_merge 64 = .ok (.ifCond .gt 7, 3) := by decide +kernel
theorem dX4_merge_67 : decode cX4_merge 67 = .ok (.iconst 1, 1) := by decide +kernel
theorem dX4_merge_68 : decode cX4_merge 68 = .ok (.goto 4, 3) := by decide +kernel
theorem dX4_merge_71 : decode cX4_merge 71 = .ok (.iconst 0, 1) := by decide +kernel
theorem dX4_merge_72 : decode cX4_merge 72 = .ok (.istore 10, 2) := by decide +kernel
theorem dX4_merge_74 : decode cX4_merge 74 = .ok (.iload 10, 2) := by decide +kernel
theorem dX4_merge_76 : decode cX4_merge 76 = .ok (.ifCond .eq 21, 3) := by decide +kernel
theorem dX4_merge_79 : decode cX4_merge 79 = .ok (.aload_n 0, 1) := by decide +kernel
theorem dX4_merge_80 : decode cX4_merge 80 = .ok (.getfield 15, 3) := by decide +kernel
theorem dX4_merge_83 : decode cX4_merge 83 = .ok (.iload 9, 2) := by decide +kernel
theorem dX4_merge_85 : decode cX4_merge 85 = .ok (.aload 6, 2) := by decide +kernel
theorem dX4_merge_87 : decode cX4_merge 87 = .ok (.iload 7, 2) := by decide +kernel
theorem dX4_merge_89 : decode cX4_merge 89 = .ok (.laload, 1) := by decide +kernel
theorem dX4_merge_90 : decode cX4_merge 90 = .ok (.lastore, 1) := by decide +kernel
theorem dX4_merge_91 : decode cX4_merge 91 = .ok (.iinc 7 1, 3) := by decide +kernel
theorem dX4_merge_94 : decode cX4_merge 94 = .ok (.goto 18, 3) := by decide +kernel
theorem dX4_merge_97 : decode cX4_merge 97 = .ok (.aload_n 0, 1) := by decide +kernel
theorem dX4_merge_98 : decode cX4_merge 98 = .ok (.getfield 15, 3) := by decide +kernel
theorem dX4_merge_101 : decode cX4_merge 101 = .ok (.iload 9, 2) := by decide +kernel
theorem dX4_merge_103 : decode cX4_merge 103 = .ok (.aload 6, 2) := by decide +kernel
theorem dX4_merge_105 : decode cX4_merge 105 = .ok (.iload 8, 2) := by decide +kernel
theorem dX4_merge_107 : decode cX4_merge 107 = .ok (.laload, 1) := by decide +kernel
theorem dX4_merge_108 : decode cX4_merge 108 = .ok (.lastore, 1) := by decide +kernel
theorem dX4_merge_109 : decode cX4_merge 109 = .ok (.iinc 8 1, 3) := by decide +kernel
theorem dX4_merge_112 : decode cX4_merge 112 = .ok (.iinc 9 1, 3) := by decide +kernel
theorem dX4_merge_115 : decode cX4_merge 115 = .ok (.goto (-99), 3) := by decide +kernel
theorem dX4_merge_118 : decode cX4_merge 118 = .ok (.return_, 1) := by decide +kernel
theorem dX4_rank_0 : decode cX4_rank 0 = .ok (.iload_n 1, 1) := by decide +kernel
theorem dX4_rank_1 : decode cX4_rank 1 = .ok (.ifCond .ne 9, 3) := by decide +kernel
theorem dX4_rank_4 : decode cX4_rank 4 = .ok (.aload_n 0, 1) := by decide +kernel
theorem dX4_rank_5 : decode cX4_rank 5 = .ok (.lload_n 2, 1) := by decide +kernel
theorem dX4_rank_6 : decode cX4_rank 6 = .ok (.invokevirtual 51, 3) := by decide +kernel
theorem dX4_rank_9 : decode cX4_rank 9 = .ok (.lreturn, 1) := by decide +kernel
theorem dX4_rank_10 : decode cX4_rank 10 = .ok (.iload_n 1, 1) := by decide +kernel
theorem dX4_rank_11 : decode cX4_rank 11 = .ok (.iconst 1, 1) := by decide +kernel
theorem dX4_rank_12 : decode cX4_rank 12 = .ok (.if_icmp .ne 12, 3) := by decide +kernel
theorem dX4_rank_15 : decode cX4_rank 15 = .ok (.aload_n 0, 1) := by decide +kernel
theorem dX4_rank_16 : decode cX4_rank 16 = .ok (.lload_n 2, 1) := by decide +kernel
theorem dX4_rank_17 : decode cX4_rank 17 = .ok (.invokevirtual 51, 3) := by decide +kernel
theorem dX4_rank_20 : decode cX4_rank 20 = .ok (.lneg, 1) := by decide +kernel
theorem dX4_rank_21 : decode cX4_rank 21 = .ok (.goto 8, 3) := by decide +kernel
theorem dX4_rank_24 : decode cX4_rank 24 = .ok (.aload_n 0, 1) := by decide +kernel
theorem dX4_rank_25 : decode cX4_rank 25 = .ok (.lload_n 2, 1) := by decide +kernel
theorem dX4_rank_26 : decode cX4_rank 26 = .ok (.invokevirtual 57, 3) := by decide +kernel
theorem dX4_rank_29 : decode cX4_rank 29 = .ok (.lreturn, 1) := by decide +kernel
theorem dX4_changed_0 : decode cX4_changed 0 = .ok (.iconst 0, 1) := by decide +kernel
theorem dX4_changed_1 : decode cX4_changed 1 = .ok (.istore_n 2, 1) := by decide +kernel
theorem dX4_changed_2 : decode cX4_changed 2 = .ok (.iconst 0, 1) := by decide +kernel
theorem dX4_changed_3 : decode cX4_changed 3 = .ok (.istore_n 3, 1) := by decide +kernel
theorem dX4_changed_4 : decode cX4_changed 4 = .ok (.iload_n 3, 1) := by decide +kernel
theorem dX4_changed_5 : decode cX4_changed 5 = .ok (.aload_n 1, 1) := by decide +kernel
theorem dX4_changed_6 : decode cX4_changed 6 = .ok (.arraylength, 1) := by decide +kernel
theorem dX4_changed_7 : decode cX4_changed 7 = .ok (.if_icmp .ge 25, 3) := by decide +kernel
theorem dX4_changed_10 : decode cX4_changed 10 = .ok (.aload_n 1, 1) := by decide +kernel
theorem dX4_changed_11 : decode cX4_changed 11 = .ok (.iload_n 3, 1) := by decide +kernel
theorem dX4_changed_12 : decode cX4_changed 12 = .ok (.laload, 1) := by decide +kernel
theorem dX4_changed_13 : decode cX4_changed 13 = .ok (.aload_n 0, 1) := by decide +kernel
theorem dX4_changed_14 : decode cX4_changed 14 = .ok (.getfield 9, 3) := by decide +kernel
theorem dX4_changed_17 : decode cX4_changed 17 = .ok (.iload_n 3, 1) := by decide +kernel
theorem dX4_changed_18 : decode cX4_changed 18 = .ok (.laload, 1) := by decide +kernel
theorem dX4_changed_19 : decode cX4_changed 19 = .ok (.lcmp, 1) := by decide +kernel
theorem dX4_changed_20 : decode cX4_changed 20 = .ok (.ifCond .eq 6, 3) := by decide +kernel
theorem dX4_changed_23 : decode cX4_changed 23 = .ok (.iinc 2 1, 3) := by decide +kernel
theorem dX4_changed_26 : decode cX4_changed 26 = .ok (.iinc 3 1, 3) := by decide +kernel
theorem dX4_changed_29 : decode cX4_changed 29 = .ok (.goto (-25), 3) := by decide +kernel
theorem dX4_changed_32 : decode cX4_changed 32 = .ok (.iload_n 2, 1) := by decide +kernel
theorem dX4_changed_33 : decode cX4_changed 33 = .ok (.ireturn, 1) := by decide +kernel
theorem dX5_plain_0 : decode cX5_plain 0 = .ok (.lconst 0, 1) := by decide +kernel
theorem dX5_plain_1 : decode cX5_plain 1 = .ok (.lstore_n 2, 1) := by decide +kernel
theorem dX5_plain_2 : decode cX5_plain 2 = .ok (.iconst 0, 1) := by decide +kernel
theorem dX5_plain_3 : decode cX5_plain 3 = .ok (.istore 4, 2) := by decide +kernel
theorem dX5_plain_5 : decode cX5_plain 5 = .ok (.iload 4, 2) := by decide +kernel
theorem dX5_plain_7 : decode cX5_plain 7 = .ok (.aload_n 1, 1) := by decide +kernel
theorem dX5_plain_8 : decode cX5_plain 8 = .ok (.arraylength, 1) := by decide +kernel
theorem dX5_plain_9 : decode cX5_plain 9 = .ok (.if_icmp .ge 19, 3) := by decide +kernel
theorem dX5_plain_12 : decode cX5_plain 12 = .ok (.aload_n 0, 1) := by decide +kernel
theorem dX5_plain_13 : decode cX5_plain 13 = .ok (.lload_n 2, 1) := by decide +kernel
theorem dX5_plain_14 : decode cX5_plain 14 = .ok (.aload_n 1, 1) := by decide +kernel
theorem dX5_plain_15 : decode cX5_plain 15 = .ok (.iload 4, 2) := by decide +kernel
theorem dX5_plain_17 : decode cX5_plain 17 = .ok (.laload, 1) := by decide +kernel
theorem dX5_plain_18 : decode cX5_plain 18 = .ok (.invokestatic 7, 3) := by decide +kernel
theorem dX5_plain_21 : decode cX5_plain 21 = .ok (.lstore_n 2, 1) := by decide +kernel
theorem dX5_plain_22 : decode cX5_plain 22 = .ok (.iinc 4 1, 3) := by decide +kernel
theorem dX5_plain_25 : decode cX5_plain 25 = .ok (.goto (-20), 3) := by decide +kernel
theorem dX5_plain_28 : decode cX5_plain 28 = .ok (.lload_n 2, 1) := by decide +kernel
theorem dX5_plain_29 : decode cX5_plain 29 = .ok (.lreturn, 1) := by decide +kernel
theorem dX5_carried_0 : decode cX5_carried 0 = .ok (.lconst 0, 1) := by decide +kernel
theorem dX5_carried_1 : decode cX5_carried 1 = .ok (.lstore_n 2, 1) := by decide +kernel
theorem dX5_carried_2 : decode cX5_carried 2 = .ok (.lconst 0, 1) := by decide +kernel
theorem dX5_carried_3 : decode cX5_carried 3 = .ok (.lstore 4, 2) := by decide +kernel
theorem dX5_carried_5 : decode cX5_carried 5 = .ok (.iconst 0, 1) := by decide +kernel
theorem dX5_carried_6 : decode cX5_carried 6 = .ok (.istore 6, 2) := by decide +kernel
theorem dX5_carried_8 : decode cX5_carried 8 = .ok (.iload 6, 2) := by decide +kernel
theorem dX5_carried_10 : decode cX5_carried 10 = .ok (.aload_n 1, 1) := by decide +kernel
theorem dX5_carried_11 : decode cX5_carried 11 = .ok (.arraylength, 1) := by decide +kernel
theorem dX5_carried_12 : decode cX5_carried 12 = .ok (.if_icmp .ge 48, 3) := by decide +kernel
theorem dX5_carried_15 : decode cX5_carried 15 = .ok (.aload_n 0, 1) := by decide +kernel
theorem dX5_carried_16 : decode cX5_carried 16 = .ok (.aload_n 1, 1) := by decide +kernel
theorem dX5_carried_17 : decode cX5_carried 17 = .ok (.iload 6, 2) := by decide +kernel
theorem dX5_carried_19 : decode cX5_carried 19 = .ok (.laload, 1) := by decide +kernel
theorem dX5_carried_20 : decode cX5_carried 20 = .ok (.lload 4, 2) := by decide +kernel
theorem dX5_carried_22 : decode cX5_carried 22 = .ok (.invokestatic 13, 3) := by decide +kernel
theorem dX5_carried_25 : decode cX5_carried 25 = .ok (.lstore 7, 2) := by decide +kernel
theorem dX5_carried_27 : decode cX5_carried 27 = .ok (.aload_n 0, 1) := by decide +kernel
theorem dX5_carried_28 : decode cX5_carried 28 = .ok (.lload_n 2, 1) := by decide +kernel
theorem dX5_carried_29 : decode cX5_carried 29 = .ok (.lload 7, 2) := by decide +kernel
theorem dX5_carried_31 : decode cX5_carried 31 = .ok (.invokestatic 7, 3) := by decide +kernel
theorem dX5_carried_34 : decode cX5_carried 34 = .ok (.lstore 9, 2) := by decide +kernel
theorem dX5_carried_36 : decode cX5_carried 36 = .ok (.aload_n 0, 1) := by decide +kernel
theorem dX5_carried_37 : decode cX5_carried 37 = .ok (.aload_n 0, 1) := by decide +kernel
theorem dX5_carried_38 : decode cX5_carried 38 = .ok (.lload 9, 2) := by decide +kernel
theorem dX5_carried_40 : decode cX5_carried 40 = .ok (.lload_n 2, 1) := by decide +kernel
theorem dX5_carried_41 : decode cX5_carried 41 = .ok (.invokestatic 13, 3) := by decide +kernel
theorem dX5_carried_44 : decode cX5_carried 44 = .ok (.lload 7, 2) := by decide +kernel
theorem dX5_carried_46 : decode cX5_carried 46 = .ok (.invokestatic 13, 3) := by decide +kernel
theorem dX5_carried_49 : decode cX5_carried 49 = .ok (.lstore 4, 2) := by decide +kernel
theorem dX5_carried_51 : decode cX5_carried 51 = .ok (.lload 9, 2) := by decide +kernel
theorem dX5_carried_53 : decode cX5_carried 53 = .ok (.lstore_n 2, 1) := by decide +kernel
theorem dX5_carried_54 : decode cX5_carried 54 = .ok (.iinc 6 1, 3) := by decide +kernel
theorem dX5_carried_57 : decode cX5_carried 57 = .ok (.goto (-49), 3) := by decide +kernel
theorem dX5_carried_60 : decode cX5_carried 60 = .ok (.lload_n 2, 1) := by decide +kernel
theorem dX5_carried_61 : decode cX5_carried 61 = .ok (.lreturn, 1) := by decide +kernel
theorem dX5_halved_0 : decode cX5_halved 0 = .ok (.aload_n 0, 1) := by decide +kernel
theorem dX5_halved_1 : decode cX5_halved 1 = .ok (.aload_n 1, 1) := by decide +kernel
theorem dX5_halved_2 : decode cX5_halved 2 = .ok (.iconst 0, 1) := by decide +kernel
theorem dX5_halved_3 : decode cX5_halved 3 = .ok (.aload_n 1, 1) := by decide +kernel
theorem dX5_halved_4 : decode cX5_halved 4 = .ok (.arraylength, 1) := by decide +kernel
theorem dX5_halved_5 : decode cX5_halved 5 = .ok (.iconst 0, 1) := by decide +kernel
theorem dX5_halved_6 : decode cX5_halved 6 = .ok (.invokestatic 16, 3) := by decide +kernel
theorem dX5_halved_9 : decode cX5_halved 9 = .ok (.lreturn, 1) := by decide +kernel
theorem dX5_ofPart_0 : decode cX5_ofPart 0 = .ok (.iload_n 3, 1) := by decide +kernel
theorem dX5_ofPart_1 : decode cX5_ofPart 1 = .ok (.iconst 1, 1) := by decide +kernel
theorem dX5_ofPart_2 : decode cX5_ofPart 2 = .ok (.if_icmp .lt 20, 3) := by decide +kernel
theorem dX5_ofPart_5 : decode cX5_ofPart 5 = .ok (.iload_n 2, 1) := by decide +kernel
theorem dX5_ofPart_6 : decode cX5_ofPart 6 = .ok (.ifCond .lt 16, 3) := by decide +kernel
theorem dX5_ofPart_9 : decode cX5_ofPart 9 = .ok (.iload_n 2, 1) := by decide +kernel
theorem dX5_ofPart_10 : decode cX5_ofPart 10 = .ok (.aload_n 1, 1) := by decide +kernel
theorem dX5_ofPart_11 : decode cX5_ofPart 11 = .ok (.arraylength, 1) := by decide +kernel
theorem dX5_ofPart_12 : decode cX5_ofPart 12 = .ok (.if_icmp .ge 10, 3) := by decide +kernel
theorem dX5_ofPart_15 : decode cX5_ofPart 15 = .ok (.iload 4, 2) := by decide +kernel
theorem dX5_ofPart_17 : decode cX5_ofPart 17 = .ok (.bipush 40, 2) := by decide +kernel
theorem dX5_ofPart_19 : decode cX5_ofPart 19 = .ok (.if_icmp .le 5, 3) := by decide +kernel
theorem dX5_ofPart_22 : decode cX5_ofPart 22 = .ok (.lconst 0, 1) := by decide +kernel
theorem dX5_ofPart_23 : decode cX5_ofPart 23 = .ok (.lreturn, 1) := by decide +kernel
theorem dX5_ofPart_24 : decode cX5_ofPart 24 = .ok (.iload_n 3, 1) := by decide +kernel
theorem dX5_ofPart_25 : decode cX5_ofPart 25 = .ok (.iconst 1, 1) := by decide +kernel
theorem dX5_ofPart_26 : decode cX5_ofPart 26 = .ok (.if_icmp .ne 7, 3) := by decide +kernel
theorem dX5_ofPart_29 : decode cX5_ofPart 29 = .ok (.aload_n 1, 1) := by decide +kernel
theorem dX5_ofPart_30 : decode cX5_ofPart 30 = .ok (.iload_n 2, 1) := by decide +kernel
theorem dX5_ofPart_31 : decode cX5_ofPart 31 = .ok (.laload, 1) := by decide +kernel
theorem dX5_ofPart_32 : decode cX5_ofPart 32 = .ok (.lreturn, 1) := by decide +kernel
theorem dX5_ofPart_33 : decode cX5_ofPart 33 = .ok (.iload_n 3, 1) := by decide +kernel
theorem dX5_ofPart_34 : decode cX5_ofPart 34 = .ok (.iconst 2, 1) := by decide +kernel
theorem dX5_ofPart_35 : decode cX5_ofPart 35 = .ok (.idiv, 1) := by decide +kernel
theorem dX5_ofPart_36 : decode cX5_ofPart 36 = .ok (.istore 5, 2) := by decide +kernel
theorem dX5_ofPart_38 : decode cX5_ofPart 38 = .ok (.aload_n 0, 1) := by decide +kernel
theorem dX5_ofPart_39 : decode cX5_ofPart 39 = .ok (.aload_n 1, 1) := by decide +kernel
theorem dX5_ofPart_40 : decode cX5_ofPart 40 = .ok (.iload_n 2, 1) := by decide +kernel
theorem dX5_ofPart_41 : decode cX5_ofPart 41 = .ok (.iload 5, 2) := by decide +kernel
theorem dX5_ofPart_43 : decode cX5_ofPart 43 = .ok (.iload 4, 2) := by decide +kernel
theorem dX5_ofPart_45 : decode cX5_ofPart 45 = .ok (.iconst 1, 1) := by decide +kernel
theorem dX5_ofPart_46 : decode cX5_ofPart 46 = .ok (.iadd, 1) := by decide +kernel
theorem dX5_ofPart_47 : decode cX5_ofPart 47 = .ok (.invokestatic 16, 3) := by decide +kernel
theorem dX5_ofPart_50 : decode cX5_ofPart 50 = .ok (.lstore 6, 2) := by decide +kernel
theorem dX5_ofPart_52 : decode cX5_ofPart 52 = .ok (.aload_n 0, 1) := by decide +kernel
theorem dX5_ofPart_53 : decode cX5_ofPart 53 = .ok (.aload_n 1, 1) := by decide +kernel
theorem dX5_ofPart_54 : decode cX5_ofPart 54 = .ok (.iload_n 2, 1) := by decide +kernel
theorem dX5_ofPart_55 : decode cX5_ofPart 55 = .ok (.iload 5, 2) := by decide +kernel
theorem dX5_ofPart_57 : decode cX5_ofPart 57 = .ok (.iadd, 1) := by decide +kernel
theorem dX5_ofPart_58 : decode cX5_ofPart 58 = .ok (.iload_n 3, 1) := by decide +kernel
theorem dX5_ofPart_59 : decode cX5_ofPart 59 = .ok (.iload 5, 2) := by decide +kernel
theorem dX5_ofPart_61 : decode cX5_ofPart 61 = .ok (.isub, 1) := by decide +kernel
theorem dX5_ofPart_62 : decode cX5_ofPart 62 = .ok (.iload 4, 2) := by decide +kernel
theorem dX5_ofPart_64 : decode cX5_ofPart 64 = .ok (.iconst 1, 1) := by decide +kernel
theorem dX5_ofPart_65 : decode cX5_ofPart 65 = .ok (.iadd, 1) := by decide +kernel
theorem dX5_ofPart_66 : decode cX5_ofPart 66 = .ok (.invokestatic 16, 3) := by decide +kernel
theorem dX5_ofPart_69 : decode cX5_ofPart 69 = .ok (.lstore 8, 2) := by decide +kernel
theorem dX5_ofPart_71 : decode cX5_ofPart 71 = .ok (.aload_n 0, 1) := by decide +kernel
theorem dX5_ofPart_72 : decode cX5_ofPart 72 = .ok (.lload 6, 2) := by decide +kernel
theorem dX5_ofPart_74 : decode cX5_ofPart 74 = .ok (.lload 8, 2) := by decide +kernel
theorem dX5_ofPart_76 : decode cX5_ofPart 76 = .ok (.invokestatic 7, 3) := by decide +kernel
theorem dX5_ofPart_79 : decode cX5_ofPart 79 = .ok (.lreturn, 1) := by decide +kernel
theorem dX6_init_0 : decode cX6_init 0 = .ok (.aload_n 0, 1) := by decide +kernel
theorem dX6_init_1 : decode cX6_init 1 = .ok (.invokespecial 3, 3) := by decide +kernel
theorem dX6_init_4 : decode cX6_init 4 = .ok (.aload_n 0, 1) := by decide +kernel
theorem dX6_init_5 : decode cX6_init 5 = .ok (.bipush 64, 2) := by decide +kernel
theorem dX6_init_7 : decode cX6_init 7 = .ok (.anewarray 9, 3) := by decide +kernel
theorem dX6_init_10 : decode cX6_init 10 = .ok (.putfield 11, 3) := by decide +kernel
theorem dX6_init_13 : decode cX6_init 13 = .ok (.aload_n 0, 1) := by decide +kernel
theorem dX6_init_14 : decode cX6_init 14 = .ok (.new 15, 3) := by decide +kernel
theorem dX6_init_17 : decode cX6_init 17 = .ok (.dup, 1) := by decide +kernel
theorem dX6_init_18 : decode cX6_init 18 = .ok (.invokespecial 17, 3) := by decide +kernel
theorem dX6_init_21 : decode cX6_init 21 = .ok (.putfield 18, 3) := by decide +kernel
theorem dX6_init_24 : decode cX6_init 24 = .ok (.aload_n 0, 1) := by decide +kernel
theorem dX6_init_25 : decode cX6_init 25 = .ok (.iconst 0, 1) := by decide +kernel
theorem dX6_init_26 : decode cX6_init 26 = .ok (.putfield 22, 3) := by decide +kernel
theorem dX6_init_29 : decode cX6_init 29 = .ok (.aload_n 0, 1) := by decide +kernel
theorem dX6_init_30 : decode cX6_init 30 = .ok (.iconst 0, 1) := by decide +kernel
theorem dX6_init_31 : decode cX6_init 31 = .ok (.putfield 26, 3) := by decide +kernel
theorem dX6_init_34 : decode cX6_init 34 = .ok (.aload_n 0, 1) := by decide +kernel
theorem dX6_init_35 : decode cX6_init 35 = .ok (.iconst 0, 1) := by decide +kernel
theorem dX6_init_36 : decode cX6_init 36 = .ok (.putfield 29, 3) := by decide +kernel
theorem dX6_init_39 : decode cX6_init 39 = .ok (.return_, 1) := by decide +kernel
theorem dX6_row_0 : decode cX6_row 0 = .ok (.iload_n 1, 1) := by decide +kernel
theorem dX6_row_1 : decode cX6_row 1 = .ok (.iconst 1, 1) := by decide +kernel
theorem dX6_row_2 : decode cX6_row 2 = .ok (.if_icmp .lt 10, 3) := by decide +kernel
theorem dX6_row_5 : decode cX6_row 5 = .ok (.iload_n 1, 1) := by decide +kernel
theorem dX6_row_6 : decode cX6_row 6 = .ok (.sipush 500, 3) := by decide +kernel
theorem dX6_row_9 : decode cX6_row 9 = .ok (.if_icmp .le 9, 3) := by decide +kernel
theorem dX6_row_12 : decode cX6_row 12 = .ok (.aload_n 0, 1) := by decide +kernel
theorem dX6_row_13 : decode cX6_row 13 = .ok (.iconst 2, 1) := by decide +kernel
theorem dX6_row_14 : decode cX6_row 14 = .ok (.invokevirtual 32, 3) := by decide +kernel
theorem dX6_row_17 : decode cX6_row 17 = .ok (.ireturn, 1) := by decide +kernel
theorem dX6_row_18 : decode cX6_row 18 = .ok (.aload_n 0, 1) := by decide +kernel
theorem dX6_row_19 : decode cX6_row 19 = .ok (.getfield 22, 3) := by decide +kernel
theorem dX6_row_22 : decode cX6_row 22 = .ok (.bipush 64, 2) := by decide +kernel
theorem dX6_row_24 : decode cX6_row 24 = .ok (.if_icmp .ge 15, 3) := by decide +kernel
theorem dX6_row_27 : decode cX6_row 27 = .ok (.iload_n 1, 1) := by decide +kernel
theorem dX6_row_28 : decode cX6_row 28 = .ok (.sipush 4000, 3) := by decide +kernel
theorem dX6_row_31 : decode cX6_row 31 = .ok (.aload_n 0, 1) := by decide +kernel
theorem dX6_row_32 : decode cX6_row 32 = .ok (.getfield 26, 3) := by decide +kernel
theorem dX6_row_35 : decode cX6_row 35 = .ok (.isub, 1) := by decide +kernel
theorem dX6_row_36 : decode cX6_row 36 = .ok (.if_icmp .le 9, 3) := by decide +kernel
theorem dX6_row_39 : decode cX6_row 39 = .ok (.aload_n 0, 1) := by decide +kernel
theorem dX6_row_40 : decode cX6_row 40 = .ok (.iconst 5, 1) := by decide +kernel
theorem dX6_row_41 : decode cX6_row 41 = .ok (.invokevirtual 32, 3) := by decide +kernel
theorem dX6_row_44 : decode cX6_row 44 = .ok (.ireturn, 1) := by decide +kernel
theorem dX6_row_45 : decode cX6_row 45 = .ok (.aload_n 0, 1) := by decide +kernel
theorem dX6_row_46 : decode cX6_row 46 = .ok (.getfield 22, 3) := by decide +kernel
theorem dX6_row_49 : decode cX6_row 49 = .ok (.istore_n 3, 1) := by decide +kernel
theorem dX6_row_50 : decode cX6_row 50 = .ok (.aload_n 0, 1) := by decide +kernel
theorem dX6_row_51 : decode cX6_row 51 = .ok (.getfield 11, 3) := by decide +kernel
theorem dX6_row_54 : decode cX6_row 54 = .ok (.iload_n 3, 1) := by decide +kernel
theorem dX6_row_55 : decode cX6_row 55 = .ok (.new 9, 3) := by decide +kernel
theorem dX6_row_58 : decode cX6_row 58 = .ok (.dup, 1) := by decide +kernel
theorem dX6_row_59 : decode cX6_row 59 = .ok (.iload_n 2, 1) := by decide +kernel
theorem dX6_row_60 : decode cX6_row 60 = .ok (.ifCond .eq 9, 3) := by decide +kernel
theorem dX6_row_63 : decode cX6_row 63 = .ok (.getstatic 36, 3) := by decide +kernel
theorem dX6_row_66 : decode cX6_row 66 = .ok (.goto 6, 3) := by decide +kernel
theorem dX6_row_69 : decode cX6_row 69 = .ok (.getstatic 42, 3) := by decide +kernel
theorem dX6_row_72 : decode cX6_row 72 = .ok (.iload_n 1, 1) := by decide +kernel
theorem dX6_row_73 : decode cX6_row 73 = .ok (.invokespecial 45, 3) := by decide +kernel
theorem dX6_row_76 : decode cX6_row 76 = .ok (.aastore, 1) := by decide +kernel
theorem dX6_row_77 : decode cX6_row 77 = .ok (.aload_n 0, 1) := by decide +kernel
theorem dX6_row_78 : decode cX6_row 78 = .ok (.dup, 1) := by decide +kernel
theorem dX6_row_79 : decode cX6_row 79 = .ok (.getfield 22, 3) := by decide +kernel
theorem dX6_row_82 : decode cX6_row 82 = .ok (.iconst 1, 1) := by decide +kernel
theorem dX6_row_83 : decode cX6_row 83 = .ok (.iadd, 1) := by decide +kernel
theorem dX6_row_84 : decode cX6_row 84 = .ok (.putfield 22, 3) := by decide +kernel
theorem dX6_row_87 : decode cX6_row 87 = .ok (.aload_n 0, 1) := by decide +kernel
theorem dX6_row_88 : decode cX6_row 88 = .ok (.dup, 1) := by decide +kernel
theorem dX6_row_89 : decode cX6_row 89 = .ok (.getfield 26, 3) := by decide +kernel
theorem dX6_row_92 : decode cX6_row 92 = .ok (.iload_n 1, 1) := by decide +kernel
theorem dX6_row_93 : decode cX6_row 93 = .ok (.iadd, 1) := by decide +kernel
theorem dX6_row_94 : decode cX6_row 94 = .ok (.putfield 26, 3) := by decide +kernel
theorem dX6_row_97 : decode cX6_row 97 = .ok (.aload_n 0, 1) := by decide +kernel
theorem dX6_row_98 : decode cX6_row 98 = .ok (.iload_n 3, 1) := by decide +kernel
theorem dX6_row_99 : decode cX6_row 99 = .ok (.invokevirtual 48, 3) := by decide +kernel
theorem dX6_row_102 : decode cX6_row 102 = .ok (.ireturn, 1) := by decide +kernel
theorem dX6_set_0 : decode cX6_set 0 = .ok (.aload_n 0, 1) := by decide +kernel
theorem dX6_set_1 : decode cX6_set 1 = .ok (.iload_n 1, 1) := by decide +kernel
theorem dX6_set_2 : decode cX6_set 2 = .ok (.invokevirtual 51, 3) := by decide +kernel
theorem dX6_set_5 : decode cX6_set 5 = .ok (.astore 5, 2) := by decide +kernel
theorem dX6_set_7 : decode cX6_set 7 = .ok (.aload 5, 2) := by decide +kernel
theorem dX6_set_9 : decode cX6_set 9 = .ok (.ifnonnull 9, 3) := by decide +kernel
theorem dX6_set_12 : decode cX6_set 12 = .ok (.aload_n 0, 1) := by decide +kernel
theorem dX6_set_13 : decode cX6_set 13 = .ok (.iconst 1, 1) := by decide +kernel
theorem dX6_set_14 : decode cX6_set 14 = .ok (.invokevirtual 32, 3) := by decide +kernel
theorem dX6_set_17 : decode cX6_set 17 = .ok (.ireturn, 1) := by decide +kernel
theorem dX6_set_18 : decode cX6_set 18 = .ok (.aload 5, 2) := by decide +kernel
theorem dX6_set_20 : decode cX6_set 20 = .ok (.iload_n 2, 1) := by decide +kernel
theorem dX6_set_21 : decode cX6_set 21 = .ok (.invokevirtual 55, 3) := by decide +kernel
theorem dX6_set_24 : decode cX6_set 24 = .ok (.ifCond .ne 9, 3) := by decide +kernel
theorem dX6_set_27 : decode cX6_set 27 = .ok (.aload_n 0, 1) := by decide +kernel
theorem dX6_set_28 : decode cX6_set 28 = .ok (.iconst 2, 1) := by decide +kernel
theorem dX6_set_29 : decode cX6_set 29 = .ok (.invokevirtual 32, 3) := by decide +kernel
theorem dX6_set_32 : decode cX6_set 32 = .ok (.ireturn, 1) := by decide +kernel
theorem dX6_set_33 : decode cX6_set 33 = .ok (.aload_n 0, 1) := by decide +kernel
theorem dX6_set_34 : decode cX6_set 34 = .ok (.aload 5, 2) := by decide +kernel
theorem dX6_set_36 : decode cX6_set 36 = .ok (.iload_n 2, 1) := by decide +kernel
theorem dX6_set_37 : decode cX6_set 37 = .ok (.aload 5, 2) := by decide +kernel
theorem dX6_set_39 : decode cX6_set 39 = .ok (.getfield 59, 3) := by decide +kernel
theorem dX6_set_42 : decode cX6_set 42 = .ok (.lload_n 3, 1) := by decide +kernel
theorem dX6_set_43 : decode cX6_set 43 = .ok (.invokevirtual 62, 3) := by decide +kernel
theorem dX6_set_46 : decode cX6_set 46 = .ok (.invokevirtual 66, 3) := by decide +kernel
theorem dX6_set_49 : decode cX6_set 49 = .ok (.invokevirtual 48, 3) := by decide +kernel
theorem dX6_set_52 : decode cX6_set 52 = .ok (.ireturn, 1) := by decide +kernel
theorem dX6_whole_0 : decode cX6_whole 0 = .ok (.aload_n 0, 1) := by decide +kernel
theorem dX6_whole_1 : decode cX6_whole 1 = .ok (.iload_n 1, 1) := by decide +kernel
theorem dX6_whole_2 : decode cX6_whole 2 = .ok (.invokevirtual 51, 3) := by decide +kernel
theorem dX6_whole_5 : decode cX6_whole 5 = .ok (.astore 5, 2) := by decide +kernel
theorem dX6_whole_7 : decode cX6_whole 7 = .ok (.aload 5, 2) := by decide +kernel
theorem dX6_whole_9 : decode cX6_whole 9 = .ok (.ifnonnull 9, 3) := by decide +kernel
theorem dX6_whole_12 : decode cX6_whole 12 = .ok (.aload_n 0, 1) := by decide +kernel
theorem dX6_whole_13 : decode cX6_whole 13 = .ok (.iconst 1, 1) := by decide +kernel
theorem dX6_whole_14 : decode cX6_whole 14 = .ok (.invokevirtual 32, 3) := by decide +kernel
theorem dX6_whole_17 : decode cX6_whole 17 = .ok (.ireturn, 1) := by decide +kernel
theorem dX6_whole_18 : decode cX6_whole 18 = .ok (.aload 5, 2) := by decide +kernel
theorem dX6_whole_20 : decode cX6_whole 20 = .ok (.iload_n 2, 1) := by decide +kernel
theorem dX6_whole_21 : decode cX6_whole 21 = .ok (.invokevirtual 55, 3) := by decide +kernel
theorem dX6_whole_24 : decode cX6_whole 24 = .ok (.ifCond .ne 9, 3) := by decide +kernel
theorem dX6_whole_27 : decode cX6_whole 27 = .ok (.aload_n 0, 1) := by decide +kernel
theorem dX6_whole_28 : decode cX6_whole 28 = .ok (.iconst 2, 1) := by decide +kernel
theorem dX6_whole_29 : decode cX6_whole 29 = .ok (.invokevirtual 32, 3) := by decide +kernel
theorem dX6_whole_32 : decode cX6_whole 32 = .ok (.ireturn, 1) := by decide +kernel
theorem dX6_whole_33 : decode cX6_whole 33 = .ok (.aload_n 0, 1) := by decide +kernel
theorem dX6_whole_34 : decode cX6_whole 34 = .ok (.aload 5, 2) := by decide +kernel
theorem dX6_whole_36 : decode cX6_whole 36 = .ok (.iload_n 2, 1) := by decide +kernel
theorem dX6_whole_37 : decode cX6_whole 37 = .ok (.aload 5, 2) := by decide +kernel
theorem dX6_whole_39 : decode cX6_whole 39 = .ok (.getfield 59, 3) := by decide +kernel
theorem dX6_whole_42 : decode cX6_whole 42 = .ok (.lload_n 3, 1) := by decide +kernel
theorem dX6_whole_43 : decode cX6_whole 43 = .ok (.invokestatic 70, 3) := by decide +kernel
theorem dX6_whole_46 : decode cX6_whole 46 = .ok (.invokevirtual 66, 3) := by decide +kernel
theorem dX6_whole_49 : decode cX6_whole 49 = .ok (.invokevirtual 48, 3) := by decide +kernel
theorem dX6_whole_52 : decode cX6_whole 52 = .ok (.ireturn, 1) := by decide +kernel
theorem dX6_get_0 : decode cX6_get 0 = .ok (.aload_n 0, 1) := by decide +kernel
theorem dX6_get_1 : decode cX6_get 1 = .ok (.iload_n 1, 1) := by decide +kernel
theorem dX6_get_2 : decode cX6_get 2 = .ok (.invokevirtual 51, 3) := by decide +kernel
theorem dX6_get_5 : decode cX6_get 5 = .ok (.astore_n 3, 1) := by decide +kernel
theorem dX6_get_6 : decode cX6_get 6 = .ok (.aload_n 3, 1) := by decide +kernel
theorem dX6_get_7 : decode cX6_get 7 = .ok (.ifnonnull 9, 3) := by decide +kernel
theorem dX6_get_10 : decode cX6_get 10 = .ok (.aload_n 0, 1) := by decide +kernel
theorem dX6_get_11 : decode cX6_get 11 = .ok (.iconst 1, 1) := by decide +kernel
theorem dX6_get_12 : decode cX6_get 12 = .ok (.invokevirtual 76, 3) := by decide +kernel
theorem dX6_get_15 : decode cX6_get 15 = .ok (.lreturn, 1) := by decide +kernel
theorem dX6_get_16 : decode cX6_get 16 = .ok (.aload_n 3, 1) := by decide +kernel
theorem dX6_get_17 : decode cX6_get 17 = .ok (.iload_n 2, 1) := by decide +kernel
theorem dX6_get_18 : decode cX6_get 18 = .ok (.invokevirtual 55, 3) := by decide +kernel
theorem dX6_get_21 : decode cX6_get 21 = .ok (.ifCond .ne 9, 3) := by decide +kernel
theorem dX6_get_24 : decode cX6_get 24 = .ok (.aload_n 0, 1) := by decide +kernel
theorem dX6_get_25 : decode cX6_get 25 = .ok (.iconst 2, 1) := by decide +kernel
theorem dX6_get_26 : decode cX6_get 26 = .ok (.invokevirtual 76, 3) := by decide +kernel
theorem dX6_get_29 : decode cX6_get 29 = .ok (.lreturn, 1) := by decide +kernel
theorem dX6_get_30 : decode cX6_get 30 = .ok (.aload_n 0, 1) := by decide +kernel
theorem dX6_get_31 : decode cX6_get 31 = .ok (.aload_n 3, 1) := by decide +kernel
theorem dX6_get_32 : decode cX6_get 32 = .ok (.getfield 80, 3) := by decide +kernel
theorem dX6_get_35 : decode cX6_get 35 = .ok (.iload_n 2, 1) := by decide +kernel
theorem dX6_get_36 : decode cX6_get 36 = .ok (.laload, 1) := by decide +kernel
theorem dX6_get_37 : decode cX6_get 37 = .ok (.invokevirtual 84, 3) := by decide +kernel
theorem dX6_get_40 : decode cX6_get 40 = .ok (.lreturn, 1) := by decide +kernel
theorem dX6_cut_0 : decode cX6_cut 0 = .ok (.aload_n 0, 1) := by decide +kernel
theorem dX6_cut_1 : decode cX6_cut 1 = .ok (.iload_n 1, 1) := by decide +kernel
theorem dX6_cut_2 : decode cX6_cut 2 = .ok (.invokevirtual 51, 3) := by decide +kernel
theorem dX6_cut_5 : decode cX6_cut 5 = .ok (.astore 4, 2) := by decide +kernel
theorem dX6_cut_7 : decode cX6_cut 7 = .ok (.aload 4, 2) := by decide +kernel
theorem dX6_cut_9 : decode cX6_cut 9 = .ok (.ifnonnull 9, 3) := by decide +kernel
theorem dX6_cut_12 : decode cX6_cut 12 = .ok (.aload_n 0, 1) := by decide +kernel
theorem dX6_cut_13 : decode cX6_cut 13 = .ok (.iconst 1, 1) := by decide +kernel
theorem dX6_cut_14 : decode cX6_cut 14 = .ok (.invokevirtual 76, 3) := by decide +kernel
theorem dX6_cut_17 : decode cX6_cut 17 = .ok (.lreturn, 1) := by decide +kernel
theorem dX6_cut_18 : decode cX6_cut 18 = .ok (.aload 4, 2) := by decide +kernel
theorem dX6_cut_20 : decode cX6_cut 20 = .ok (.iload_n 2, 1) := by decide +kernel
theorem dX6_cut_21 : decode cX6_cut 21 = .ok (.invokevirtual 55, 3) := by decide +kernel
theorem dX6_cut_24 : decode cX6_cut 24 = .ok (.ifCond .ne 9, 3) := by decide +kernel
theorem dX6_cut_27 : decode cX6_cut 27 = .ok (.aload_n 0, 1) := by decide +kernel
theorem dX6_cut_28 : decode cX6_cut 28 = .ok (.iconst 2, 1) := by decide +kernel
theorem dX6_cut_29 : decode cX6_cut 29 = .ok (.invokevirtual 76, 3) := by decide +kernel
theorem dX6_cut_32 : decode cX6_cut 32 = .ok (.lreturn, 1) := by decide +kernel
theorem dX6_cut_33 : decode cX6_cut 33 = .ok (.aload 4, 2) := by decide +kernel
theorem dX6_cut_35 : decode cX6_cut 35 = .ok (.getfield 59, 3) := by decide +kernel
theorem dX6_cut_38 : decode cX6_cut 38 = .ok (.aload 4, 2) := by decide +kernel
theorem dX6_cut_40 : decode cX6_cut 40 = .ok (.getfield 80, 3) := by decide +kernel
theorem dX6_cut_43 : decode cX6_cut 43 = .ok (.iload_n 2, 1) := by decide +kernel
theorem dX6_cut_44 : decode cX6_cut 44 = .ok (.laload, 1) := by decide +kernel
theorem dX6_cut_45 : decode cX6_cut 45 = .ok (.invokestatic 87, 3) := by decide +kernel
theorem dX6_cut_48 : decode cX6_cut 48 = .ok (.lstore 5, 2) := by decide +kernel
theorem dX6_cut_50 : decode cX6_cut 50 = .ok (.iload_n 3, 1) := by decide +kernel
theorem dX6_cut_51 : decode cX6_cut 51 = .ok (.ifCond .eq 19, 3) := by decide +kernel
theorem dX6_cut_54 : decode cX6_cut 54 = .ok (.ldc2_w 90, 3) := by decide +kernel
theorem dX6_cut_57 : decode cX6_cut 57 = .ok (.ldc2_w 92, 3) := by decide +kernel
theorem dX6_cut_60 : decode cX6_cut 60 = .ok (.lload 5, 2) := by decide +kernel
theorem dX6_cut_62 : decode cX6_cut 62 = .ok (.invokestatic 94, 3) := by decide +kernel
theorem dX6_cut_65 : decode cX6_cut 65 = .ok (.invokestatic 100, 3) := by decide +kernel
theorem dX6_cut_68 : decode cX6_cut 68 = .ok (.lstore 5, 2) := by decide +kernel
theorem dX6_cut_70 : decode cX6_cut 70 = .ok (.aload_n 0, 1) := by decide +kernel
theorem dX6_cut_71 : decode cX6_cut 71 = .ok (.lload 5, 2) := by decide +kernel
theorem dX6_cut_73 : decode cX6_cut 73 = .ok (.invokevirtual 84, 3) := by decide +kernel
theorem dX6_cut_76 : decode cX6_cut 76 = .ok (.lreturn, 1) := by decide +kernel
theorem dX6_compare_0 : decode cX6_compare 0 = .ok (.aload_n 0, 1) := by decide +kernel
theorem dX6_compare_1 : decode cX6_compare 1 = .ok (.iload_n 1, 1) := by decide +kernel
theorem dX6_compare_2 : decode cX6_compare 2 = .ok (.invokevirtual 51, 3) := by decide +kernel
theorem dX6_compare_5 : decode cX6_compare 5 = .ok (.astore 4, 2) := by decide +kernel
theorem dX6_compare_7 : decode cX6_compare 7 = .ok (.aload 4, 2) := by decide +kernel
theorem dX6_compare_9 : decode cX6_compare 9 = .ok (.ifnonnull 9, 3) := by decide +kernel
theorem dX6_compare_12 : decode cX6_compare 12 = .ok (.aload_n 0, 1) := by decide +kernel
theorem dX6_compare_13 : decode cX6_compare 13 = .ok (.iconst 1, 1) := by decide +kernel
theorem dX6_compare_14 : decode cX6_compare 14 = .ok (.invokevirtual 32, 3) := by decide +kernel
theorem dX6_compare_17 : decode cX6_compare 17 = .ok (.ireturn, 1) := by decide +kernel
theorem dX6_compare_18 : decode cX6_compare 18 = .ok (.aload 4, 2) := by decide +kernel
theorem dX6_compare_20 : decode cX6_compare 20 = .ok (.iload_n 2, 1) := by decide +kernel
theorem dX6_compare_21 : decode cX6_compare 21 = .ok (.invokevirtual 55, 3) := by decide +kernel
theorem dX6_compare_24 : decode cX6_compare 24 = .ok (.ifCond .eq 12, 3) := by decide +kernel
theorem dX6_compare_27 : decode cX6_compare 27 = .ok (.aload 4, 2) := by decide +kernel
theorem dX6_compare_29 : decode cX6_compare 29 = .ok (.iload_n 3, 1) := by decide +kernel
theorem dX6_compare_30 : decode cX6_compare 30 = .ok (.invokevirtual 55, 3) := by decide +kernel
theorem dX6_compare_33 : decode cX6_compare 33 = .ok (.ifCond .ne 9, 3) := by decide +kernel
theorem dX6_compare_36 : decode cX6_compare 36 = .ok (.aload_n 0, 1) := by decide +kernel
theorem dX6_compare_37 : decode cX6_compare 37 = .ok (.iconst 2, 1) := by decide +kernel
theorem dX6_compare_38 : decode cX6_compare 38 = .ok (.invokevirtual 32, 3) := by decide +kernel
theorem dX6_compare_41 : decode cX6_compare 41 = .ok (.ireturn, 1) := by decide +kernel
theorem dX6_compare_42 : decode cX6_compare 42 = .ok (.aload_n 0, 1) := by decide +kernel
theorem dX6_compare_43 : decode cX6_compare 43 = .ok (.aload 4, 2) := by decide +kernel
theorem dX6_compare_45 : decode cX6_compare 45 = .ok (.getfield 59, 3) := by decide +kernel
theorem dX6_compare_48 : decode cX6_compare 48 = .ok (.aload 4, 2) := by decide +kernel
theorem dX6_compare_50 : decode cX6_compare 50 = .ok (.getfield 80, 3) := by decide +kernel
theorem dX6_compare_53 : decode cX6_compare 53 = .ok (.iload_n 2, 1) := by decide +kernel
theorem dX6_compare_54 : decode cX6_compare 54 = .ok (.laload, 1) := by decide +kernel
theorem dX6_compare_55 : decode cX6_compare 55 = .ok (.aload 4, 2) := by decide +kernel
theorem dX6_compare_57 : decode cX6_compare 57 = .ok (.getfield 80, 3) := by decide +kernel
theorem dX6_compare_60 : decode cX6_compare 60 = .ok (.iload_n 3, 1) := by decide +kernel
theorem dX6_compare_61 : decode cX6_compare 61 = .ok (.laload, 1) := by decide +kernel
theorem dX6_compare_62 : decode cX6_compare 62 = .ok (.invokevirtual 103, 3) := by decide +kernel
theorem dX6_compare_65 : decode cX6_compare 65 = .ok (.invokevirtual 48, 3) := by decide +kernel
theorem dX6_compare_68 : decode cX6_compare 68 = .ok (.ireturn, 1) := by decide +kernel
theorem dX6_between_0 : decode cX6_between 0 = .ok (.aload_n 0, 1) := by decide +kernel
theorem dX6_between_1 : decode cX6_between 1 = .ok (.iload_n 1, 1) := by decide +kernel
theorem dX6_between_2 : decode cX6_between 2 = .ok (.invokevirtual 51, 3) := by decide +kernel
theorem dX6_between_5 : decode cX6_between 5 = .ok (.astore 5, 2) := by decide +kernel
theorem dX6_between_7 : decode cX6_between 7 = .ok (.aload 5, 2) := by decide +kernel
theorem dX6_between_9 : decode cX6_between 9 = .ok (.ifnonnull 9, 3) := by decide +kernel
theorem dX6_between_12 : decode cX6_between 12 = .ok (.aload_n 0, 1) := by decide +kernel
theorem dX6_between_13 : decode cX6_between 13 = .ok (.iconst 1, 1) := by decide +kernel
theorem dX6_between_14 : decode cX6_between 14 = .ok (.invokevirtual 32, 3) := by decide +kernel
theorem dX6_between_17 : decode cX6_between 17 = .ok (.ireturn, 1) := by decide +kernel
theorem dX6_between_18 : decode cX6_between 18 = .ok (.aload 5, 2) := by decide +kernel
theorem dX6_between_20 : decode cX6_between 20 = .ok (.iload_n 2, 1) := by decide +kernel
theorem dX6_between_21 : decode cX6_between 21 = .ok (.invokevirtual 55, 3) := by decide +kernel
theorem dX6_between_24 : decode cX6_between 24 = .ok (.ifCond .eq 22, 3) := by decide +kernel
theorem dX6_between_27 : decode cX6_between 27 = .ok (.aload 5, 2) := by decide +kernel
theorem dX6_between_29 : decode cX6_between 29 = .ok (.iload_n 3, 1) := by decide +kernel
theorem dX6_between_30 : decode cX6_between 30 = .ok (.invokevirtual 55, 3) := by decide +kernel
theorem dX6_between_33 : decode cX6_between 33 = .ok (.ifCond .eq 13, 3) := by decide +kernel
theorem dX6_between_36 : decode cX6_between 36 = .ok (.aload 5, 2) := by decide +kernel
theorem dX6_between_38 : decode cX6_between 38 = .ok (.iload 4, 2) := by decide +kernel
theorem dX6_between_40 : decode cX6_between 40 = .ok (.invokevirtual 55, 3) := by decide +kernel
theorem dX6_between_43 : decode cX6_between 43 = .ok (.ifCond .ne 9, 3) := by decide +kernel
theorem dX6_between_46 : decode cX6_between 46 = .ok (.aload_n 0, 1) := by decide +kernel
theorem dX6_between_47 : decode cX6_between 47 = .ok (.iconst 2, 1) := by decide +kernel
theorem dX6_between_48 : decode cX6_between 48 = .ok (.invokevirtual 32, 3) := by decide +kernel
theorem dX6_between_51 : decode cX6_between 51 = .ok (.ireturn, 1) := by decide +kernel
theorem dX6_between_52 : decode cX6_between 52 = .ok (.aload 5, 2) := by decide +kernel
theorem dX6_between_54 : decode cX6_between 54 = .ok (.getfield 59, 3) := by decide +kernel
theorem dX6_between_57 : decode cX6_between 57 = .ok (.astore 6, 2) := by decide +kernel
theorem dX6_between_59 : decode cX6_between 59 = .ok (.aload 5, 2) := by decide +kernel
theorem dX6_between_61 : decode cX6_between 61 = .ok (.getfield 80, 3) := by decide +kernel
theorem dX6_between_64 : decode cX6_between 64 = .ok (.iload_n 2, 1) := by decide +kernel
theorem dX6_between_65 : decode cX6_between 65 = .ok (.laload, 1) := by decide +kernel
theorem dX6_between_66 : decode cX6_between 66 = .ok (.lstore 7, 2) := by decide +kernel
theorem dX6_between_68 : decode cX6_between 68 = .ok (.aload 5, 2) := by decide +kernel
theorem dX6_between_70 : decode cX6_between 70 = .ok (.getfield 80, 3) := by decide +kernel
theorem dX6_between_73 : decode cX6_between 73 = .ok (.iload_n 3, 1) := by decide +kernel
theorem dX6_between_74 : decode cX6_between 74 = .ok (.laload, 1) := by decide +kernel
theorem dX6_between_75 : decode cX6_between 75 = .ok (.lstore 9, 2) := by decide +kernel
theorem dX6_between_77 : decode cX6_between 77 = .ok (.aload 5, 2) := by decide +kernel
theorem dX6_between_79 : decode cX6_between 79 = .ok (.getfield 80, 3) := by decide +kernel
theorem dX6_between_82 : decode cX6_between 82 = .ok (.iload 4, 2) := by decide +kernel
theorem dX6_between_84 : decode cX6_between 84 = .ok (.laload, 1) := by decide +kernel
theorem dX6_between_85 : decode cX6_between 85 = .ok (.lstore 11, 2) := by decide +kernel
theorem dX6_between_87 : decode cX6_between 87 = .ok (.aload 6, 2) := by decide +kernel
theorem dX6_between_89 : decode cX6_between 89 = .ok (.lload 9, 2) := by decide +kernel
theorem dX6_between_91 : decode cX6_between 91 = .ok (.lload 7, 2) := by decide +kernel
theorem dX6_between_93 : decode cX6_between 93 = .ok (.invokevirtual 107, 3) := by decide +kernel
theorem dX6_between_96 : decode cX6_between 96 = .ok (.ifCond .eq 19, 3) := by decide +kernel
theorem dX6_between_99 : decode cX6_between 99 = .ok (.aload 6, 2) := by decide +kernel
theorem dX6_between_101 : decode cX6_between 101 = .ok (.lload 7, 2) := by decide +kernel
theorem dX6_between_103 : decode cX6_between 103 = .ok (.lload 11, 2) := by decide +kernel
theorem dX6_between_105 : decode cX6_between 105 = .ok (.invokevirtual 107, 3) := by decide +kernel
theorem dX6_between_108 : decode cX6_between 108 = .ok (.ifCond .eq 7, 3) := by decide +kernel
theorem dX6_between_111 : decode cX6_between 111 = .ok (.iconst 1, 1) := by decide +kernel
theorem dX6_between_112 : decode cX6_between 112 = .ok (.goto 4, 3) := by decide +kernel
theorem dX6_between_115 : decode cX6_between 115 = .ok (.iconst 0, 1) := by decide +kernel
theorem dX6_between_116 : decode cX6_between 116 = .ok (.istore 13, 2) := by decide +kernel
theorem dX6_between_118 : decode cX6_between 118 = .ok (.aload 6, 2) := by decide +kernel
theorem dX6_between_120 : decode cX6_between 120 = .ok (.lload 7, 2) := by decide +kernel
theorem dX6_between_122 : decode cX6_between 122 = .ok (.lload 9, 2) := by decide +kernel
theorem dX6_between_124 : decode cX6_between 124 = .ok (.invokevirtual 111, 3) := by decide +kernel
theorem dX6_between_127 : decode cX6_between 127 = .ok (.ifCond .ne 15, 3) := by decide +kernel
theorem dX6_between_130 : decode cX6_between 130 = .ok (.aload 6, 2) := by decide +kernel
theorem dX6_between_132 : decode cX6_between 132 = .ok (.lload 11, 2) := by decide +kernel
theorem dX6_between_134 : decode cX6_between 134 = .ok (.lload 7, 2) := by decide +kernel
theorem dX6_between_136 : decode cX6_between 136 = .ok (.invokevirtual 111, 3) := by decide +kernel
theorem dX6_between_139 : decode cX6_between 139 = .ok (.ifCond .eq 7, 3) := by decide +kernel
theorem dX6_between_142 : decode cX6_between 142 = .ok (.iconst 0, 1) := by decide +kernel
theorem dX6_between_143 : decode cX6_between 143 = .ok (.goto 4, 3) := by decide +kernel
theorem dX6_between_146 : decode cX6_between 146 = .ok (.iconst 2, 1) := by decide +kernel
theorem dX6_between_147 : decode cX6_between 147 = .ok (.istore 14, 2) := by decide +kernel
theorem dX6_between_149 : decode cX6_between 149 = .ok (.aload_n 0, 1) := by decide +kernel
theorem dX6_between_150 : decode cX6_between 150 = .ok (.iload 13, 2) := by decide +kernel
theorem dX6_between_152 : decode cX6_between 152 = .ok (.iload 14, 2) := by decide +kernel
theorem dX6_between_154 : decode cX6_between 154 = .ok (.iadd, 1) := by decide +kernel
theorem dX6_between_155 : decode cX6_between 155 = .ok (.invokevirtual 48, 3) := by decide +kernel
theorem dX6_between_158 : decode cX6_between 158 = .ok (.ireturn, 1) := by decide +kernel
theorem dX6_total_0 : decode cX6_total 0 = .ok (.aload_n 0, 1) := by decide +kernel
theorem dX6_total_1 : decode cX6_total 1 = .ok (.iload_n 1, 1) := by decide +kernel
theorem dX6_total_2 : decode cX6_total 2 = .ok (.invokevirtual 51, 3) := by decide +kernel
theorem dX6_total_5 : decode cX6_total 5 = .ok (.astore 4, 2) := by decide +kernel
theorem dX6_total_7 : decode cX6_total 7 = .ok (.aload 4, 2) := by decide +kernel
theorem dX6_total_9 : decode cX6_total 9 = .ok (.ifnonnull 9, 3) := by decide +kernel
theorem dX6_total_12 : decode cX6_total 12 = .ok (.aload_n 0, 1) := by decide +kernel
theorem dX6_total_13 : decode cX6_total 13 = .ok (.iconst 1, 1) := by decide +kernel
theorem dX6_total_14 : decode cX6_total 14 = .ok (.invokevirtual 32, 3) := by decide +kernel
theorem dX6_total_17 : decode cX6_total 17 = .ok (.ireturn, 1) := by decide +kernel
theorem dX6_total_18 : decode cX6_total 18 = .ok (.aload 4, 2) := by decide +kernel
theorem dX6_total_20 : decode cX6_total 20 = .ok (.iload_n 2, 1) := by decide +kernel
theorem dX6_total_21 : decode cX6_total 21 = .ok (.invokevirtual 55, 3) := by decide +kernel
theorem dX6_total_24 : decode cX6_total 24 = .ok (.ifCond .eq 12, 3) := by decide +kernel
theorem dX6_total_27 : decode cX6_total 27 = .ok (.aload 4, 2) := by decide +kernel
theorem dX6_total_29 : decode cX6_total 29 = .ok (.iload_n 3, 1) := by decide +kernel
theorem dX6_total_30 : decode cX6_total 30 = .ok (.invokevirtual 55, 3) := by decide +kernel
theorem dX6_total_33 : decode cX6_total 33 = .ok (.ifCond .ne 9, 3) := by decide +kernel
theorem dX6_total_36 : decode cX6_total 36 = .ok (.aload_n 0, 1) := by decide +kernel
theorem dX6_total_37 : decode cX6_total 37 = .ok (.iconst 2, 1) := by decide +kernel
theorem dX6_total_38 : decode cX6_total 38 = .ok (.invokevirtual 32, 3) := by decide +kernel
theorem dX6_total_41 : decode cX6_total 41 = .ok (.ireturn, 1) := by decide +kernel
theorem dX6_total_42 : decode cX6_total 42 = .ok (.aload 4, 2) := by decide +kernel
theorem dX6_total_44 : decode cX6_total 44 = .ok (.getfield 59, 3) := by decide +kernel
theorem dX6_total_47 : decode cX6_total 47 = .ok (.aload 4, 2) := by decide +kernel
theorem dX6_total_49 : decode cX6_total 49 = .ok (.getfield 80, 3) := by decide +kernel
theorem dX6_total_52 : decode cX6_total 52 = .ok (.iload_n 2, 1) := by decide +kernel
theorem dX6_total_53 : decode cX6_total 53 = .ok (.laload, 1) := by decide +kernel
theorem dX6_total_54 : decode cX6_total 54 = .ok (.invokevirtual 114, 3) := by decide +kernel
theorem dX6_total_57 : decode cX6_total 57 = .ok (.lstore 5, 2) := by decide +kernel
theorem dX6_total_59 : decode cX6_total 59 = .ok (.aload 4, 2) := by decide +kernel
theorem dX6_total_61 : decode cX6_total 61 = .ok (.getfield 59, 3) := by decide +kernel
theorem dX6_total_64 : decode cX6_total 64 = .ok (.aload 4, 2) := by decide +kernel
theorem dX6_total_66 : decode cX6_total 66 = .ok (.getfield 80, 3) := by decide +kernel
theorem dX6_total_69 : decode cX6_total 69 = .ok (.iload_n 3, 1) := by decide +kernel
theorem dX6_total_70 : decode cX6_total 70 = .ok (.laload, 1) := by decide +kernel
theorem dX6_total_71 : decode cX6_total 71 = .ok (.invokevirtual 114, 3) := by decide +kernel
theorem dX6_total_74 : decode cX6_total 74 = .ok (.lstore 7, 2) := by decide +kernel
theorem dX6_total_76 : decode cX6_total 76 = .ok (.aload_n 0, 1) := by decide +kernel
theorem dX6_total_77 : decode cX6_total 77 = .ok (.lload 5, 2) := by decide +kernel
theorem dX6_total_79 : decode cX6_total 79 = .ok (.lload 7, 2) := by decide +kernel
theorem dX6_total_81 : decode cX6_total 81 = .ok (.lcmp, 1) := by decide +kernel
theorem dX6_total_82 : decode cX6_total 82 = .ok (.ifCond .ge 7, 3) := by decide +kernel
theorem dX6_total_85 : decode cX6_total 85 = .ok (.iconst (-1), 1) := by decide +kernel
theorem dX6_total_86 : decode cX6_total 86 = .ok (.goto 16, 3) := by decide +kernel
theorem dX6_total_89 : decode cX6_total 89 = .ok (.lload 5, 2) := by decide +kernel
theorem dX6_total_91 : decode cX6_total 91 = .ok (.lload 7, 2) := by decide +kernel
theorem dX6_total_93 : decode cX6_total 93 = .ok (.lcmp, 1) := by decide +kernel
theorem dX6_total_94 : decode cX6_total 94 = .ok (.ifCond .le 7, 3) := by decide +kernel
theorem dX6_total_97 : decode cX6_total 97 = .ok (.iconst 1, 1) := by decide +kernel
theorem dX6_total_98 : decode cX6_total 98 = .ok (.goto 4, 3) := by decide +kernel
theorem dX6_total_101 : decode cX6_total 101 = .ok (.iconst 0, 1) := by decide +kernel
theorem dX6_total_102 : decode cX6_total 102 = .ok (.invokevirtual 48, 3) := by decide +kernel
theorem dX6_total_105 : decode cX6_total 105 = .ok (.ireturn, 1) := by decide +kernel
