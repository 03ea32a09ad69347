/-! each method's instructions are simulated (written by wip/whole/gen.py) -/
theorem dX7_init_0 : decode cX7_init 0 = .ok (.aload_n 0, 1) := by decide +kernel
theorem dX7_init_1 : decode cX7_init 1 = .ok (.invokespecial 7, 3) := by decide +kernel
theorem dX7_init_4 : decode cX7_init 4 = .ok (.aload_n 0, 1) := by decide +kernel
theorem dX7_init_5 : decode cX7_init 5 = .ok (.sipush 960, 3) := by decide +kernel
theorem dX7_init_8 : decode cX7_init 8 = .ok (.newarray .int, 2) := by decide +kernel
theorem dX7_init_10 : decode cX7_init 10 = .ok (.putfield 13, 3) := by decide +kernel
theorem dX7_init_13 : decode cX7_init 13 = .ok (.aload_n 0, 1) := by decide +kernel
theorem dX7_init_14 : decode cX7_init 14 = .ok (.bipush 6, 2) := by decide +kernel
theorem dX7_init_16 : decode cX7_init 16 = .ok (.newarray .int, 2) := by decide +kernel
theorem dX7_init_18 : decode cX7_init 18 = .ok (.putfield 17, 3) := by decide +kernel
theorem dX7_init_21 : decode cX7_init 21 = .ok (.aload_n 0, 1) := by decide +kernel
theorem dX7_init_22 : decode cX7_init 22 = .ok (.sipush 160, 3) := by decide +kernel
theorem dX7_init_25 : decode cX7_init 25 = .ok (.newarray .int, 2) := by decide +kernel
theorem dX7_init_27 : decode cX7_init 27 = .ok (.putfield 20, 3) := by decide +kernel
theorem dX7_init_30 : decode cX7_init 30 = .ok (.aload_n 0, 1) := by decide +kernel
theorem dX7_init_31 : decode cX7_init 31 = .ok (.bipush 8, 2) := by decide +kernel
theorem dX7_init_33 : decode cX7_init 33 = .ok (.newarray .int, 2) := by decide +kernel
theorem dX7_init_35 : decode cX7_init 35 = .ok (.putfield 23, 3) := by decide +kernel
theorem dX7_init_38 : decode cX7_init 38 = .ok (.aload_n 0, 1) := by decide +kernel
theorem dX7_init_39 : decode cX7_init 39 = .ok (.iconst 5, 1) := by decide +kernel
theorem dX7_init_40 : decode cX7_init 40 = .ok (.newarray .int, 2) := by decide +kernel
theorem dX7_init_42 : decode cX7_init 42 = .ok (.putfield 26, 3) := by decide +kernel
theorem dX7_init_45 : decode cX7_init 45 = .ok (.aload_n 0, 1) := by decide +kernel
theorem dX7_init_46 : decode cX7_init 46 = .ok (.iconst 5, 1) := by decide +kernel
theorem dX7_init_47 : decode cX7_init 47 = .ok (.newarray .int, 2) := by decide +kernel
theorem dX7_init_49 : decode cX7_init 49 = .ok (.putfield 29, 3) := by decide +kernel
theorem dX7_init_52 : decode cX7_init 52 = .ok (.aload_n 0, 1) := by decide +kernel
theorem dX7_init_53 : decode cX7_init 53 = .ok (.bipush 50, 2) := by decide +kernel
theorem dX7_init_55 : decode cX7_init 55 = .ok (.newarray .int, 2) := by decide +kernel
theorem dX7_init_57 : decode cX7_init 57 = .ok (.putfield 32, 3) := by decide +kernel
theorem dX7_init_60 : decode cX7_init 60 = .ok (.aload_n 0, 1) := by decide +kernel
theorem dX7_init_61 : decode cX7_init 61 = .ok (.bipush 10, 2) := by decide +kernel
theorem dX7_init_63 : decode cX7_init 63 = .ok (.newarray .int, 2) := by decide +kernel
theorem dX7_init_65 : decode cX7_init 65 = .ok (.putfield 35, 3) := by decide +kernel
theorem dX7_init_68 : decode cX7_init 68 = .ok (.aload_n 0, 1) := by decide +kernel
theorem dX7_init_69 : decode cX7_init 69 = .ok (.iconst 5, 1) := by decide +kernel
theorem dX7_init_70 : decode cX7_init 70 = .ok (.newarray .int, 2) := by decide +kernel
theorem dX7_init_72 : decode cX7_init 72 = .ok (.putfield 38, 3) := by decide +kernel
theorem dX7_init_75 : decode cX7_init 75 = .ok (.aload_n 0, 1) := by decide +kernel
theorem dX7_init_76 : decode cX7_init 76 = .ok (.bipush 8, 2) := by decide +kernel
theorem dX7_init_78 : decode cX7_init 78 = .ok (.newarray .int, 2) := by decide +kernel
theorem dX7_init_80 : decode cX7_init 80 = .ok (.putfield 41, 3) := by decide +kernel
theorem dX7_init_83 : decode cX7_init 83 = .ok (.aload_n 0, 1) := by decide +kernel
theorem dX7_init_84 : decode cX7_init 84 = .ok (.iconst 5, 1) := by decide +kernel
theorem dX7_init_85 : decode cX7_init 85 = .ok (.newarray .int, 2) := by decide +kernel
theorem dX7_init_87 : decode cX7_init 87 = .ok (.putfield 44, 3) := by decide +kernel
theorem dX7_init_90 : decode cX7_init 90 = .ok (.aload_n 0, 1) := by decide +kernel
theorem dX7_init_91 : decode cX7_init 91 = .ok (.bipush 50, 2) := by decide +kernel
theorem dX7_init_93 : decode cX7_init 93 = .ok (.newarray .int, 2) := by decide +kernel
theorem dX7_init_95 : decode cX7_init 95 = .ok (.putfield 47, 3) := by decide +kernel
theorem dX7_init_98 : decode cX7_init 98 = .ok (.aload_n 0, 1) := by decide +kernel
theorem dX7_init_99 : decode cX7_init 99 = .ok (.iconst (-1), 1) := by decide +kernel
theorem dX7_init_100 : decode cX7_init 100 = .ok (.putfield 50, 3) := by decide +kernel
theorem dX7_init_103 : decode cX7_init 103 = .ok (.aload_n 0, 1) := by decide +kernel
theorem dX7_init_104 : decode cX7_init 104 = .ok (.iconst 4, 1) := by decide +kernel
theorem dX7_init_105 : decode cX7_init 105 = .ok (.newarray .boolean, 2) := by decide +kernel
theorem dX7_init_107 : decode cX7_init 107 = .ok (.putfield 53, 3) := by decide +kernel
theorem dX7_init_110 : decode cX7_init 110 = .ok (.aload_n 0, 1) := by decide +kernel
theorem dX7_init_111 : decode cX7_init 111 = .ok (.iconst 4, 1) := by decide +kernel
theorem dX7_init_112 : decode cX7_init 112 = .ok (.newarray .int, 2) := by decide +kernel
theorem dX7_init_114 : decode cX7_init 114 = .ok (.putfield 57, 3) := by decide +kernel
theorem dX7_init_117 : decode cX7_init 117 = .ok (.aload_n 0, 1) := by decide +kernel
theorem dX7_init_118 : decode cX7_init 118 = .ok (.iconst 4, 1) := by decide +kernel
theorem dX7_init_119 : decode cX7_init 119 = .ok (.newarray .int, 2) := by decide +kernel
theorem dX7_init_121 : decode cX7_init 121 = .ok (.putfield 60, 3) := by decide +kernel
theorem dX7_init_124 : decode cX7_init 124 = .ok (.aload_n 0, 1) := by decide +kernel
theorem dX7_init_125 : decode cX7_init 125 = .ok (.sipush 160, 3) := by decide +kernel
theorem dX7_init_128 : decode cX7_init 128 = .ok (.newarray .int, 2) := by decide +kernel
theorem dX7_init_130 : decode cX7_init 130 = .ok (.putfield 63, 3) := by decide +kernel
theorem dX7_init_133 : decode cX7_init 133 = .ok (.iconst 0, 1) := by decide +kernel
theorem dX7_init_134 : decode cX7_init 134 = .ok (.istore_n 1, 1) := by decide +kernel
theorem dX7_init_135 : decode cX7_init 135 = .ok (.iload_n 1, 1) := by decide +kernel
theorem dX7_init_136 : decode cX7_init 136 = .ok (.bipush 8, 2) := by decide +kernel
theorem dX7_init_138 : decode cX7_init 138 = .ok (.if_icmp .ge 17, 3) := by decide +kernel
theorem dX7_init_141 : decode cX7_init 141 = .ok (.aload_n 0, 1) := by decide +kernel
theorem dX7_init_142 : decode cX7_init 142 = .ok (.getfield 23, 3) := by decide +kernel
theorem dX7_init_145 : decode cX7_init 145 = .ok (.iload_n 1, 1) := by decide +kernel
theorem dX7_init_146 : decode cX7_init 146 = .ok (.bipush 30, 2) := by decide +kernel
theorem dX7_init_148 : decode cX7_init 148 = .ok (.iastore, 1) := by decide +kernel
theorem dX7_init_149 : decode cX7_init 149 = .ok (.iinc 1 1, 3) := by decide +kernel
theorem dX7_init_152 : decode cX7_init 152 = .ok (.goto (-17), 3) := by decide +kernel
theorem dX7_init_155 : decode cX7_init 155 = .ok (.aload_n 0, 1) := by decide +kernel
theorem dX7_init_156 : decode cX7_init 156 = .ok (.iconst 0, 1) := by decide +kernel
theorem dX7_init_157 : decode cX7_init 157 = .ok (.bipush 116, 2) := by decide +kernel
theorem dX7_init_159 : decode cX7_init 159 = .ok (.bipush 101, 2) := by decide +kernel
theorem dX7_init_161 : decode cX7_init 161 = .ok (.bipush 97, 2) := by decide +kernel
theorem dX7_init_163 : decode cX7_init 163 = .ok (.bipush 99, 2) := by decide +kernel
theorem dX7_init_165 : decode cX7_init 165 = .ok (.bipush 104, 2) := by decide +kernel
theorem dX7_init_167 : decode cX7_init 167 = .ok (.bipush 101, 2) := by decide +kernel
theorem dX7_init_169 : decode cX7_init 169 = .ok (.bipush 115, 2) := by decide +kernel
theorem dX7_init_171 : decode cX7_init 171 = .ok (.bipush 32, 2) := by decide +kernel
theorem dX7_init_173 : decode cX7_init 173 = .ok (.invokevirtual 66, 3) := by decide +kernel
theorem dX7_init_176 : decode cX7_init 176 = .ok (.aload_n 0, 1) := by decide +kernel
theorem dX7_init_177 : decode cX7_init 177 = .ok (.bipush 8, 2) := by decide +kernel
theorem dX7_init_179 : decode cX7_init 179 = .ok (.bipush 56, 2) := by decide +kernel
theorem dX7_init_181 : decode cX7_init 181 = .ok (.bipush 32, 2) := by decide +kernel
theorem dX7_init_183 : decode cX7_init 183 = .ok (.bipush 45, 2) := by decide +kernel
theorem dX7_init_185 : decode cX7_init 185 = .ok (.bipush 32, 2) := by decide +kernel
theorem dX7_init_187 : decode cX7_init 187 = .ok (.bipush 100, 2) := by decide +kernel
theorem dX7_init_189 : decode cX7_init 189 = .ok (.bipush 111, 2) := by decide +kernel
theorem dX7_init_191 : decode cX7_init 191 = .ok (.bipush 110, 2) := by decide +kernel
theorem dX7_init_193 : decode cX7_init 193 = .ok (.bipush 101, 2) := by decide +kernel
theorem dX7_init_195 : decode cX7_init 195 = .ok (.invokevirtual 66, 3) := by decide +kernel
theorem dX7_init_198 : decode cX7_init 198 = .ok (.aload_n 0, 1) := by decide +kernel
theorem dX7_init_199 : decode cX7_init 199 = .ok (.bipush 16, 2) := by decide +kernel
theorem dX7_init_201 : decode cX7_init 201 = .ok (.bipush 32, 2) := by decide +kernel
theorem dX7_init_203 : decode cX7_init 203 = .ok (.bipush 43, 2) := by decide +kernel
theorem dX7_init_205 : decode cX7_init 205 = .ok (.bipush 32, 2) := by decide +kernel
theorem dX7_init_207 : decode cX7_init 207 = .ok (.bipush 104, 2) := by decide +kernel
theorem dX7_init_209 : decode cX7_init 209 = .ok (.bipush 101, 2) := by decide +kernel
theorem dX7_init_211 : decode cX7_init 211 = .ok (.bipush 108, 2) := by decide +kernel
theorem dX7_init_213 : decode cX7_init 213 = .ok (.bipush 112, 2) := by decide +kernel
theorem dX7_init_215 : decode cX7_init 215 = .ok (.bipush 32, 2) := by decide +kernel
theorem dX7_init_217 : decode cX7_init 217 = .ok (.invokevirtual 66, 3) := by decide +kernel
theorem dX7_init_220 : decode cX7_init 220 = .ok (.aload_n 0, 1) := by decide +kernel
theorem dX7_init_221 : decode cX7_init 221 = .ok (.bipush 24, 2) := by decide +kernel
theorem dX7_init_223 : decode cX7_init 223 = .ok (.bipush 59, 2) := by decide +kernel
theorem dX7_init_225 : decode cX7_init 225 = .ok (.bipush 32, 2) := by decide +kernel
theorem dX7_init_227 : decode cX7_init 227 = .ok (.bipush 102, 2) := by decide +kernel
theorem dX7_init_229 : decode cX7_init 229 = .ok (.bipush 97, 2) := by decide +kernel
theorem dX7_init_231 : decode cX7_init 231 = .ok (.bipush 100, 2) := by decide +kernel
theorem dX7_init_233 : decode cX7_init 233 = .ok (.bipush 101, 2) := by decide +kernel
theorem dX7_init_235 : decode cX7_init 235 = .ok (.bipush 115, 2) := by decide +kernel
theorem dX7_init_237 : decode cX7_init 237 = .ok (.bipush 32, 2) := by decide +kernel
theorem dX7_init_239 : decode cX7_init 239 = .ok (.invokevirtual 66, 3) := by decide +kernel
theorem dX7_init_242 : decode cX7_init 242 = .ok (.aload_n 0, 1) := by decide +kernel
theorem dX7_init_243 : decode cX7_init 243 = .ok (.bipush 32, 2) := by decide +kernel
theorem dX7_init_245 : decode cX7_init 245 = .ok (.bipush 49, 2) := by decide +kernel
theorem dX7_init_247 : decode cX7_init 247 = .ok (.bipush 32, 2) := by decide +kernel
theorem dX7_init_249 : decode cX7_init 249 = .ok (.bipush 59, 2) := by decide +kernel
theorem dX7_init_251 : decode cX7_init 251 = .ok (.bipush 32, 2) := by decide +kernel
theorem dX7_init_253 : decode cX7_init 253 = .ok (.bipush 110, 2) := by decide +kernel
theorem dX7_init_255 : decode cX7_init 255 = .ok (.bipush 101, 2) := by decide +kernel
theorem dX7_init_257 : decode cX7_init 257 = .ok (.bipush 114, 2) := by decide +kernel
theorem dX7_init_259 : decode cX7_init 259 = .ok (.bipush 118, 2) := by decide +kernel
theorem dX7_init_261 : decode cX7_init 261 = .ok (.invokevirtual 66, 3) := by decide +kernel
theorem dX7_init_264 : decode cX7_init 264 = .ok (.aload_n 0, 1) := by decide +kernel
theorem dX7_init_265 : decode cX7_init 265 = .ok (.bipush 40, 2) := by decide +kernel
theorem dX7_init_267 : decode cX7_init 267 = .ok (.bipush 101, 2) := by decide +kernel
theorem dX7_init_269 : decode cX7_init 269 = .ok (.bipush 115, 2) := by decide +kernel
theorem dX7_init_271 : decode cX7_init 271 = .ok (.bipush 32, 2) := by decide +kernel
theorem dX7_init_273 : decode cX7_init 273 = .ok (.bipush 53, 2) := by decide +kernel
theorem dX7_init_275 : decode cX7_init 275 = .ok (.bipush 32, 2) := by decide +kernel
theorem dX7_init_277 : decode cX7_init 277 = .ok (.bipush 59, 2) := by decide +kernel
theorem dX7_init_279 : decode cX7_init 279 = .ok (.bipush 32, 2) := by decide +kernel
theorem dX7_init_281 : decode cX7_init 281 = .ok (.bipush 32, 2) := by decide +kernel
theorem dX7_init_283 : decode cX7_init 283 = .ok (.invokevirtual 66, 3) := by decide +kernel
theorem dX7_init_286 : decode cX7_init 286 = .ok (.aload_n 0, 1) := by decide +kernel
theorem dX7_init_287 : decode cX7_init 287 = .ok (.getfield 17, 3) := by decide +kernel
theorem dX7_init_290 : decode cX7_init 290 = .ok (.iconst 0, 1) := by decide +kernel
theorem dX7_init_291 : decode cX7_init 291 = .ok (.bipush 48, 2) := by decide +kernel
theorem dX7_init_293 : decode cX7_init 293 = .ok (.iastore, 1) := by decide +kernel
theorem dX7_init_294 : decode cX7_init 294 = .ok (.aload_n 0, 1) := by decide +kernel
theorem dX7_init_295 : decode cX7_init 295 = .ok (.iconst 1, 1) := by decide +kernel
theorem dX7_init_296 : decode cX7_init 296 = .ok (.putfield 70, 3) := by decide +kernel
theorem dX7_init_299 : decode cX7_init 299 = .ok (.return_, 1) := by decide +kernel
theorem dX7_spell_0 : decode cX7_spell 0 = .ok (.aload_n 0, 1) := by decide +kernel
theorem dX7_spell_1 : decode cX7_spell 1 = .ok (.getfield 13, 3) := by decide +kernel
theorem dX7_spell_4 : decode cX7_spell 4 = .ok (.iload_n 1, 1) := by decide +kernel
theorem dX7_spell_5 : decode cX7_spell 5 = .ok (.iload_n 2, 1) := by decide +kernel
theorem dX7_spell_6 : decode cX7_spell 6 = .ok (.iastore, 1) := by decide +kernel
theorem dX7_spell_7 : decode cX7_spell 7 = .ok (.aload_n 0, 1) := by decide +kernel
theorem dX7_spell_8 : decode cX7_spell 8 = .ok (.getfield 13, 3) := by decide +kernel
theorem dX7_spell_11 : decode cX7_spell 11 = .ok (.iload_n 1, 1) := by decide +kernel
theorem dX7_spell_12 : decode cX7_spell 12 = .ok (.iconst 1, 1) := by decide +kernel
theorem dX7_spell_13 : decode cX7_spell 13 = .ok (.iadd, 1) := by decide +kernel
theorem dX7_spell_14 : decode cX7_spell 14 = .ok (.iload_n 3, 1) := by decide +kernel
theorem dX7_spell_15 : decode cX7_spell 15 = .ok (.iastore, 1) := by decide +kernel
theorem dX7_spell_16 : decode cX7_spell 16 = .ok (.aload_n 0, 1) := by decide +kernel
theorem dX7_spell_17 : decode cX7_spell 17 = .ok (.getfield 13, 3) := by decide +kernel
theorem dX7_spell_20 : decode cX7_spell 20 = .ok (.iload_n 1, 1) := by decide +kernel
theorem dX7_spell_21 : decode cX7_spell 21 = .ok (.iconst 2, 1) := by decide +kernel
theorem dX7_spell_22 : decode cX7_spell 22 = .ok (.iadd, 1) := by decide +kernel
theorem dX7_spell_23 : decode cX7_spell 23 = .ok (.iload 4, 2) := by decide +kernel
theorem dX7_spell_25 : decode cX7_spell 25 = .ok (.iastore, 1) := by decide +kernel
theorem dX7_spell_26 : decode cX7_spell 26 = .ok (.aload_n 0, 1) := by decide +kernel
theorem dX7_spell_27 : decode cX7_spell 27 = .ok (.getfield 13, 3) := by decide +kernel
theorem dX7_spell_30 : decode cX7_spell 30 = .ok (.iload_n 1, 1) := by decide +kernel
theorem dX7_spell_31 : decode cX7_spell 31 = .ok (.iconst 3, 1) := by decide +kernel
theorem dX7_spell_32 : decode cX7_spell 32 = .ok (.iadd, 1) := by decide +kernel
theorem dX7_spell_33 : decode cX7_spell 33 = .ok (.iload 5, 2) := by decide +kernel
theorem dX7_spell_35 : decode cX7_spell 35 = .ok (.iastore, 1) := by decide +kernel
theorem dX7_spell_36 : decode cX7_spell 36 = .ok (.aload_n 0, 1) := by decide +kernel
theorem dX7_spell_37 : decode cX7_spell 37 = .ok (.getfield 13, 3) := by decide +kernel
theorem dX7_spell_40 : decode cX7_spell 40 = .ok (.iload_n 1, 1) := by decide +kernel
theorem dX7_spell_41 : decode cX7_spell 41 = .ok (.iconst 4, 1) := by decide +kernel
theorem dX7_spell_42 : decode cX7_spell 42 = .ok (.iadd, 1) := by decide +kernel
theorem dX7_spell_43 : decode cX7_spell 43 = .ok (.iload 6, 2) := by decide +kernel
theorem dX7_spell_45 : decode cX7_spell 45 = .ok (.iastore, 1) := by decide +kernel
theorem dX7_spell_46 : decode cX7_spell 46 = .ok (.aload_n 0, 1) := by decide +kernel
theorem dX7_spell_47 : decode cX7_spell 47 = .ok (.getfield 13, 3) := by decide +kernel
theorem dX7_spell_50 : decode cX7_spell 50 = .ok (.iload_n 1, 1) := by decide +kernel
theorem dX7_spell_51 : decode cX7_spell 51 = .ok (.iconst 5, 1) := by decide +kernel
theorem dX7_spell_52 : decode cX7_spell 52 = .ok (.iadd, 1) := by decide +kernel
theorem dX7_spell_53 : decode cX7_spell 53 = .ok (.iload 7, 2) := by decide +kernel
theorem dX7_spell_55 : decode cX7_spell 55 = .ok (.iastore, 1) := by decide +kernel
theorem dX7_spell_56 : decode cX7_spell 56 = .ok (.aload_n 0, 1) := by decide +kernel
theorem dX7_spell_57 : decode cX7_spell 57 = .ok (.getfield 13, 3) := by decide +kernel
theorem dX7_spell_60 : decode cX7_spell 60 = .ok (.iload_n 1, 1) := by decide +kernel
theorem dX7_spell_61 : decode cX7_spell 61 = .ok (.bipush 6, 2) := by decide +kernel
theorem dX7_spell_63 : decode cX7_spell 63 = .ok (.iadd, 1) := by decide +kernel
theorem dX7_spell_64 : decode cX7_spell 64 = .ok (.iload 8, 2) := by decide +kernel
theorem dX7_spell_66 : decode cX7_spell 66 = .ok (.iastore, 1) := by decide +kernel
theorem dX7_spell_67 : decode cX7_spell 67 = .ok (.aload_n 0, 1) := by decide +kernel
theorem dX7_spell_68 : decode cX7_spell 68 = .ok (.getfield 13, 3) := by decide +kernel
theorem dX7_spell_71 : decode cX7_spell 71 = .ok (.iload_n 1, 1) := by decide +kernel
theorem dX7_spell_72 : decode cX7_spell 72 = .ok (.bipush 7, 2) := by decide +kernel
theorem dX7_spell_74 : decode cX7_spell 74 = .ok (.iadd, 1) := by decide +kernel
theorem dX7_spell_75 : decode cX7_spell 75 = .ok (.iload 9, 2) := by decide +kernel
theorem dX7_spell_77 : decode cX7_spell 77 = .ok (.iastore, 1) := by decide +kernel
theorem dX7_spell_78 : decode cX7_spell 78 = .ok (.return_, 1) := by decide +kernel
theorem dX7_isOne_0 : decode cX7_isOne 0 = .ok (.iload_n 1, 1) := by decide +kernel
theorem dX7_isOne_1 : decode cX7_isOne 1 = .ok (.i2l, 1) := by decide +kernel
theorem dX7_isOne_2 : decode cX7_isOne 2 = .ok (.lconst 0, 1) := by decide +kernel
theorem dX7_isOne_3 : decode cX7_isOne 3 = .ok (.aload_n 0, 1) := by decide +kernel
theorem dX7_isOne_4 : decode cX7_isOne 4 = .ok (.getfield 73, 3) := by decide +kernel
theorem dX7_isOne_7 : decode cX7_isOne 7 = .ok (.iconst 1, 1) := by decide +kernel
theorem dX7_isOne_8 : decode cX7_isOne 8 = .ok (.isub, 1) := by decide +kernel
theorem dX7_isOne_9 : decode cX7_isOne 9 = .ok (.i2l, 1) := by decide +kernel
theorem dX7_isOne_10 : decode cX7_isOne 10 = .ok (.invokestatic 76, 3) := by decide +kernel
theorem dX7_isOne_13 : decode cX7_isOne 13 = .ok (.ireturn, 1) := by decide +kernel
theorem dX7_isStreet_0 : decode cX7_isStreet 0 = .ok (.iload_n 0, 1) := by decide +kernel
theorem dX7_isStreet_1 : decode cX7_isStreet 1 = .ok (.i2l, 1) := by decide +kernel
theorem dX7_isStreet_2 : decode cX7_isStreet 2 = .ok (.lconst 0, 1) := by decide +kernel
theorem dX7_isStreet_3 : decode cX7_isStreet 3 = .ok (.ldc2_w 80, 3) := by decide +kernel
theorem dX7_isStreet_6 : decode cX7_isStreet 6 = .ok (.invokestatic 76, 3) := by decide +kernel
theorem dX7_isStreet_9 : decode cX7_isStreet 9 = .ok (.ireturn, 1) := by decide +kernel
theorem dX7_at_0 : decode cX7_at 0 = .ok (.bipush 10, 2) := by decide +kernel
theorem dX7_at_2 : decode cX7_at 2 = .ok (.iload_n 0, 1) := by decide +kernel
theorem dX7_at_3 : decode cX7_at 3 = .ok (.imul, 1) := by decide +kernel
theorem dX7_at_4 : decode cX7_at 4 = .ok (.iload_n 1, 1) := by decide +kernel
theorem dX7_at_5 : decode cX7_at 5 = .ok (.iadd, 1) := by decide +kernel
theorem dX7_at_6 : decode cX7_at 6 = .ok (.ireturn, 1) := by decide +kernel
theorem dX7_mostOf_0 : decode cX7_mostOf 0 = .ok (.iload_n 0, 1) := by decide +kernel
theorem dX7_mostOf_1 : decode cX7_mostOf 1 = .ok (.ifCond .eq 8, 3) := by decide +kernel
theorem dX7_mostOf_4 : decode cX7_mostOf 4 = .ok (.iload_n 0, 1) := by decide +kernel
theorem dX7_mostOf_5 : decode cX7_mostOf 5 = .ok (.iconst 4, 1) := by decide +kernel
theorem dX7_mostOf_6 : decode cX7_mostOf 6 = .ok (.if_icmp .ne 9, 3) := by decide +kernel
theorem dX7_mostOf_9 : decode cX7_mostOf 9 = .ok (.sipush 999, 3) := by decide +kernel
theorem dX7_mostOf_12 : decode cX7_mostOf 12 = .ok (.goto 15, 3) := by decide +kernel
theorem dX7_mostOf_15 : decode cX7_mostOf 15 = .ok (.iload_n 0, 1) := by decide +kernel
theorem dX7_mostOf_16 : decode cX7_mostOf 16 = .ok (.iconst 2, 1) := by decide +kernel
theorem dX7_mostOf_17 : decode cX7_mostOf 17 = .ok (.if_icmp .ne 8, 3) := by decide +kernel
theorem dX7_mostOf_20 : decode cX7_mostOf 20 = .ok (.bipush 9, 2) := by decide +kernel
theorem dX7_mostOf_22 : decode cX7_mostOf 22 = .ok (.goto 5, 3) := by decide +kernel
theorem dX7_mostOf_25 : decode cX7_mostOf 25 = .ok (.bipush 99, 2) := by decide +kernel
theorem dX7_mostOf_27 : decode cX7_mostOf 27 = .ok (.ireturn, 1) := by decide +kernel
theorem dX7_isOf_0 : decode cX7_isOf 0 = .ok (.iload_n 1, 1) := by decide +kernel
theorem dX7_isOf_1 : decode cX7_isOf 1 = .ok (.ifCond .eq 26, 3) := by decide +kernel
theorem dX7_isOf_4 : decode cX7_isOf 4 = .ok (.iload_n 1, 1) := by decide +kernel
theorem dX7_isOf_5 : decode cX7_isOf 5 = .ok (.iconst 1, 1) := by decide +kernel
theorem dX7_isOf_6 : decode cX7_isOf 6 = .ok (.if_icmp .ne 13, 3) := by decide +kernel
theorem dX7_isOf_9 : decode cX7_isOf 9 = .ok (.iload_n 2, 1) := by decide +kernel
theorem dX7_isOf_10 : decode cX7_isOf 10 = .ok (.invokestatic 82, 3) := by decide +kernel
theorem dX7_isOf_13 : decode cX7_isOf 13 = .ok (.ifCond .eq 18, 3) := by decide +kernel
theorem dX7_isOf_16 : decode cX7_isOf 16 = .ok (.goto 11, 3) := by decide +kernel
theorem dX7_isOf_19 : decode cX7_isOf 19 = .ok (.aload_n 0, 1) := by decide +kernel
theorem dX7_isOf_20 : decode cX7_isOf 20 = .ok (.iload_n 2, 1) := by decide +kernel
theorem dX7_isOf_21 : decode cX7_isOf 21 = .ok (.invokevirtual 86, 3) := by decide +kernel
theorem dX7_isOf_24 : decode cX7_isOf 24 = .ok (.ifCond .eq 7, 3) := by decide +kernel
theorem dX7_isOf_27 : decode cX7_isOf 27 = .ok (.iconst 1, 1) := by decide +kernel
theorem dX7_isOf_28 : decode cX7_isOf 28 = .ok (.goto 4, 3) := by decide +kernel
theorem dX7_isOf_31 : decode cX7_isOf 31 = .ok (.iconst 0, 1) := by decide +kernel
theorem dX7_isOf_32 : decode cX7_isOf 32 = .ok (.ireturn, 1) := by decide +kernel
theorem dX7_set_0 : decode cX7_set 0 = .ok (.iload_n 1, 1) := by decide +kernel
theorem dX7_set_1 : decode cX7_set 1 = .ok (.i2l, 1) := by decide +kernel
theorem dX7_set_2 : decode cX7_set 2 = .ok (.lconst 0, 1) := by decide +kernel
theorem dX7_set_3 : decode cX7_set 3 = .ok (.ldc2_w 89, 3) := by decide +kernel
theorem dX7_set_6 : decode cX7_set 6 = .ok (.invokestatic 76, 3) := by decide +kernel
theorem dX7_set_9 : decode cX7_set 9 = .ok (.ifCond .ne 17, 3) := by decide +kernel
theorem dX7_set_12 : decode cX7_set 12 = .ok (.iload_n 1, 1) := by decide +kernel
theorem dX7_set_13 : decode cX7_set 13 = .ok (.i2l, 1) := by decide +kernel
theorem dX7_set_14 : decode cX7_set 14 = .ok (.ldc2_w 91, 3) := by decide +kernel
theorem dX7_set_17 : decode cX7_set 17 = .ok (.ldc2_w 93, 3) := by decide +kernel
theorem dX7_set_20 : decode cX7_set 20 = .ok (.invokestatic 76, 3) := by decide +kernel
theorem dX7_set_23 : decode cX7_set 23 = .ok (.ifCond .eq 26, 3) := by decide +kernel
theorem dX7_set_26 : decode cX7_set 26 = .ok (.aload_n 0, 1) := by decide +kernel
theorem dX7_set_27 : decode cX7_set 27 = .ok (.iload_n 1, 1) := by decide +kernel
theorem dX7_set_28 : decode cX7_set 28 = .ok (.iload_n 2, 1) := by decide +kernel
theorem dX7_set_29 : decode cX7_set 29 = .ok (.invokevirtual 95, 3) := by decide +kernel
theorem dX7_set_32 : decode cX7_set 32 = .ok (.ifCond .eq 17, 3) := by decide +kernel
theorem dX7_set_35 : decode cX7_set 35 = .ok (.iload_n 3, 1) := by decide +kernel
theorem dX7_set_36 : decode cX7_set 36 = .ok (.i2l, 1) := by decide +kernel
theorem dX7_set_37 : decode cX7_set 37 = .ok (.lconst 0, 1) := by decide +kernel
theorem dX7_set_38 : decode cX7_set 38 = .ok (.iload_n 1, 1) := by decide +kernel
theorem dX7_set_39 : decode cX7_set 39 = .ok (.invokestatic 99, 3) := by decide +kernel
theorem dX7_set_42 : decode cX7_set 42 = .ok (.i2l, 1) := by decide +kernel
theorem dX7_set_43 : decode cX7_set 43 = .ok (.invokestatic 76, 3) := by decide +kernel
theorem dX7_set_46 : decode cX7_set 46 = .ok (.ifCond .ne 6, 3) := by decide +kernel
theorem dX7_set_49 : decode cX7_set 49 = .ok (.bipush (-2), 2) := by decide +kernel
theorem dX7_set_51 : decode cX7_set 51 = .ok (.ireturn, 1) := by decide +kernel
theorem dX7_set_52 : decode cX7_set 52 = .ok (.aload_n 0, 1) := by decide +kernel
theorem dX7_set_53 : decode cX7_set 53 = .ok (.iload_n 2, 1) := by decide +kernel
theorem dX7_set_54 : decode cX7_set 54 = .ok (.iload_n 1, 1) := by decide +kernel
theorem dX7_set_55 : decode cX7_set 55 = .ok (.invokevirtual 103, 3) := by decide +kernel
theorem dX7_set_58 : decode cX7_set 58 = .ok (.istore 4, 2) := by decide +kernel
theorem dX7_set_60 : decode cX7_set 60 = .ok (.aload_n 0, 1) := by decide +kernel
theorem dX7_set_61 : decode cX7_set 61 = .ok (.iload_n 1, 1) := by decide +kernel
theorem dX7_set_62 : decode cX7_set 62 = .ok (.iload_n 2, 1) := by decide +kernel
theorem dX7_set_63 : decode cX7_set 63 = .ok (.iload_n 3, 1) := by decide +kernel
theorem dX7_set_64 : decode cX7_set 64 = .ok (.invokevirtual 107, 3) := by decide +kernel
theorem dX7_set_67 : decode cX7_set 67 = .ok (.iload 4, 2) := by decide +kernel
theorem dX7_set_69 : decode cX7_set 69 = .ok (.ireturn, 1) := by decide +kernel
theorem dX7_lays_0 : decode cX7_lays 0 = .ok (.iload_n 1, 1) := by decide +kernel
theorem dX7_lays_1 : decode cX7_lays 1 = .ok (.ifCond .ne 11, 3) := by decide +kernel
theorem dX7_lays_4 : decode cX7_lays 4 = .ok (.aload_n 0, 1) := by decide +kernel
theorem dX7_lays_5 : decode cX7_lays 5 = .ok (.iload_n 3, 1) := by decide +kernel
theorem dX7_lays_6 : decode cX7_lays 6 = .ok (.putfield 111, 3) := by decide +kernel
theorem dX7_lays_9 : decode cX7_lays 9 = .ok (.goto 97, 3) := by decide +kernel
theorem dX7_lays_12 : decode cX7_lays 12 = .ok (.iload_n 1, 1) := by decide +kernel
theorem dX7_lays_13 : decode cX7_lays 13 = .ok (.iconst 1, 1) := by decide +kernel
theorem dX7_lays_14 : decode cX7_lays 14 = .ok (.if_icmp .ne 13, 3) := by decide +kernel
theorem dX7_lays_17 : decode cX7_lays 17 = .ok (.aload_n 0, 1) := by decide +kernel
theorem dX7_lays_18 : decode cX7_lays 18 = .ok (.getfield 23, 3) := by decide +kernel
theorem dX7_lays_21 : decode cX7_lays 21 = .ok (.iload_n 2, 1) := by decide +kernel
theorem dX7_lays_22 : decode cX7_lays 22 = .ok (.iload_n 3, 1) := by decide +kernel
theorem dX7_lays_23 : decode cX7_lays 23 = .ok (.iastore, 1) := by decide +kernel
theorem dX7_lays_24 : decode cX7_lays 24 = .ok (.goto 82, 3) := by decide +kernel
theorem dX7_lays_27 : decode cX7_lays 27 = .ok (.iload_n 1, 1) := by decide +kernel
theorem dX7_lays_28 : decode cX7_lays 28 = .ok (.iconst 2, 1) := by decide +kernel
theorem dX7_lays_29 : decode cX7_lays 29 = .ok (.if_icmp .ne 13, 3) := by decide +kernel
theorem dX7_lays_32 : decode cX7_lays 32 = .ok (.aload_n 0, 1) := by decide +kernel
theorem dX7_lays_33 : decode cX7_lays 33 = .ok (.getfield 29, 3) := by decide +kernel
theorem dX7_lays_36 : decode cX7_lays 36 = .ok (.iload_n 2, 1) := by decide +kernel
theorem dX7_lays_37 : decode cX7_lays 37 = .ok (.iload_n 3, 1) := by decide +kernel
theorem dX7_lays_38 : decode cX7_lays 38 = .ok (.iastore, 1) := by decide +kernel
theorem dX7_lays_39 : decode cX7_lays 39 = .ok (.goto 67, 3) := by decide +kernel
theorem dX7_lays_42 : decode cX7_lays 42 = .ok (.iload_n 1, 1) := by decide +kernel
theorem dX7_lays_43 : decode cX7_lays 43 = .ok (.iconst 5, 1) := by decide +kernel
theorem dX7_lays_44 : decode cX7_lays 44 = .ok (.if_icmp .ge 19, 3) := by decide +kernel
theorem dX7_lays_47 : decode cX7_lays 47 = .ok (.aload_n 0, 1) := by decide +kernel
theorem dX7_lays_48 : decode cX7_lays 48 = .ok (.getfield 32, 3) := by decide +kernel
theorem dX7_lays_51 : decode cX7_lays 51 = .ok (.iload_n 2, 1) := by decide +kernel
theorem dX7_lays_52 : decode cX7_lays 52 = .ok (.iload_n 1, 1) := by decide +kernel
theorem dX7_lays_53 : decode cX7_lays 53 = .ok (.iconst 5, 1) := by decide +kernel
theorem dX7_lays_54 : decode cX7_lays 54 = .ok (.iadd, 1) := by decide +kernel
theorem dX7_lays_55 : decode cX7_lays 55 = .ok (.invokestatic 114, 3) := by decide +kernel
theorem dX7_lays_58 : decode cX7_lays 58 = .ok (.iload_n 3, 1) := by decide +kernel
theorem dX7_lays_59 : decode cX7_lays 59 = .ok (.iastore, 1) := by decide +kernel
theorem dX7_lays_60 : decode cX7_lays 60 = .ok (.goto 46, 3) := by decide +kernel
theorem dX7_lays_63 : decode cX7_lays 63 = .ok (.iload_n 1, 1) := by decide +kernel
theorem dX7_lays_64 : decode cX7_lays 64 = .ok (.bipush 9, 2) := by decide +kernel
theorem dX7_lays_66 : decode cX7_lays 66 = .ok (.if_icmp .le 20, 3) := by decide +kernel
theorem dX7_lays_69 : decode cX7_lays 69 = .ok (.aload_n 0, 1) := by decide +kernel
theorem dX7_lays_70 : decode cX7_lays 70 = .ok (.getfield 32, 3) := by decide +kernel
theorem dX7_lays_73 : decode cX7_lays 73 = .ok (.iload_n 2, 1) := by decide +kernel
theorem dX7_lays_74 : decode cX7_lays 74 = .ok (.iload_n 1, 1) := by decide +kernel
theorem dX7_lays_75 : decode cX7_lays 75 = .ok (.bipush 10, 2) := by decide +kernel
theorem dX7_lays_77 : decode cX7_lays 77 = .ok (.isub, 1) := by decide +kernel
theorem dX7_lays_78 : decode cX7_lays 78 = .ok (.invokestatic 114, 3) := by decide +kernel
theorem dX7_lays_81 : decode cX7_lays 81 = .ok (.iload_n 3, 1) := by decide +kernel
theorem dX7_lays_82 : decode cX7_lays 82 = .ok (.iastore, 1) := by decide +kernel
theorem dX7_lays_83 : decode cX7_lays 83 = .ok (.goto 23, 3) := by decide +kernel
theorem dX7_lays_86 : decode cX7_lays 86 = .ok (.iload_n 1, 1) := by decide +kernel
theorem dX7_lays_87 : decode cX7_lays 87 = .ok (.iconst 5, 1) := by decide +kernel
theorem dX7_lays_88 : decode cX7_lays 88 = .ok (.if_icmp .ne 13, 3) := by decide +kernel
theorem dX7_lays_91 : decode cX7_lays 91 = .ok (.aload_n 0, 1) := by decide +kernel
theorem dX7_lays_92 : decode cX7_lays 92 = .ok (.getfield 26, 3) := by decide +kernel
theorem dX7_lays_95 : decode cX7_lays 95 = .ok (.iload_n 2, 1) := by decide +kernel
theorem dX7_lays_96 : decode cX7_lays 96 = .ok (.iload_n 3, 1) := by decide +kernel
theorem dX7_lays_97 : decode cX7_lays 97 = .ok (.iastore, 1) := by decide +kernel
theorem dX7_lays_98 : decode cX7_lays 98 = .ok (.goto 8, 3) := by decide +kernel
theorem dX7_lays_101 : decode cX7_lays 101 = .ok (.aload_n 0, 1) := by decide +kernel
theorem dX7_lays_102 : decode cX7_lays 102 = .ok (.iload_n 3, 1) := by decide +kernel
theorem dX7_lays_103 : decode cX7_lays 103 = .ok (.putfield 117, 3) := by decide +kernel
theorem dX7_lays_106 : decode cX7_lays 106 = .ok (.return_, 1) := by decide +kernel
theorem dX7_learner_0 : decode cX7_learner 0 = .ok (.iload_n 1, 1) := by decide +kernel
theorem dX7_learner_1 : decode cX7_learner 1 = .ok (.i2l, 1) := by decide +kernel
theorem dX7_learner_2 : decode cX7_learner 2 = .ok (.lconst 0, 1) := by decide +kernel
theorem dX7_learner_3 : decode cX7_learner 3 = .ok (.ldc2_w 120, 3) := by decide +kernel
theorem dX7_learner_6 : decode cX7_learner 6 = .ok (.invokestatic 76, 3) := by decide +kernel
theorem dX7_learner_9 : decode cX7_learner 9 = .ok (.ifCond .eq 15, 3) := by decide +kernel
theorem dX7_learner_12 : decode cX7_learner 12 = .ok (.iload_n 2, 1) := by decide +kernel
theorem dX7_learner_13 : decode cX7_learner 13 = .ok (.i2l, 1) := by decide +kernel
theorem dX7_learner_14 : decode cX7_learner 14 = .ok (.lconst 0, 1) := by decide +kernel
theorem dX7_learner_15 : decode cX7_learner 15 = .ok (.ldc2_w 122, 3) := by decide +kernel
theorem dX7_learner_18 : decode cX7_learner 18 = .ok (.invokestatic 76, 3) := by decide +kernel
theorem dX7_learner_21 : decode cX7_learner 21 = .ok (.ifCond .ne 6, 3) := by decide +kernel
theorem dX7_learner_24 : decode cX7_learner 24 = .ok (.bipush (-2), 2) := by decide +kernel
theorem dX7_learner_26 : decode cX7_learner 26 = .ok (.ireturn, 1) := by decide +kernel
theorem dX7_learner_27 : decode cX7_learner 27 = .ok (.aload_n 0, 1) := by decide +kernel
theorem dX7_learner_28 : decode cX7_learner 28 = .ok (.getfield 73, 3) := by decide +kernel
theorem dX7_learner_31 : decode cX7_learner 31 = .ok (.iconst 5, 1) := by decide +kernel
theorem dX7_learner_32 : decode cX7_learner 32 = .ok (.if_icmp .ne 6, 3) := by decide +kernel
theorem dX7_learner_35 : decode cX7_learner 35 = .ok (.bipush (-4), 2) := by decide +kernel
theorem dX7_learner_37 : decode cX7_learner 37 = .ok (.ireturn, 1) := by decide +kernel
theorem dX7_learner_38 : decode cX7_learner 38 = .ok (.aload_n 0, 1) := by decide +kernel
theorem dX7_learner_39 : decode cX7_learner 39 = .ok (.getfield 26, 3) := by decide +kernel
theorem dX7_learner_42 : decode cX7_learner 42 = .ok (.aload_n 0, 1) := by decide +kernel
theorem dX7_learner_43 : decode cX7_learner 43 = .ok (.getfield 73, 3) := by decide +kernel
theorem dX7_learner_46 : decode cX7_learner 46 = .ok (.iload_n 1, 1) := by decide +kernel
theorem dX7_learner_47 : decode cX7_learner 47 = .ok (.iastore, 1) := by decide +kernel
theorem dX7_learner_48 : decode cX7_learner 48 = .ok (.aload_n 0, 1) := by decide +kernel
theorem dX7_learner_49 : decode cX7_learner 49 = .ok (.getfield 29, 3) := by decide +kernel
theorem dX7_learner_52 : decode cX7_learner 52 = .ok (.aload_n 0, 1) := by decide +kernel
theorem dX7_learner_53 : decode cX7_learner 53 = .ok (.getfield 73, 3) := by decide +kernel
theorem dX7_learner_56 : decode cX7_learner 56 = .ok (.iload_n 2, 1) := by decide +kernel
theorem dX7_learner_57 : decode cX7_learner 57 = .ok (.iastore, 1) := by decide +kernel
theorem dX7_learner_58 : decode cX7_learner 58 = .ok (.iconst 0, 1) := by decide +kernel
theorem dX7_learner_59 : decode cX7_learner 59 = .ok (.istore_n 3, 1) := by decide +kernel
theorem dX7_learner_60 : decode cX7_learner 60 = .ok (.iload_n 3, 1) := by decide +kernel
theorem dX7_learner_61 : decode cX7_learner 61 = .ok (.bipush 10, 2) := by decide +kernel
theorem dX7_learner_63 : decode cX7_learner 63 = .ok (.if_icmp .ge 23, 3) := by decide +kernel
theorem dX7_learner_66 : decode cX7_learner 66 = .ok (.aload_n 0, 1) := by decide +kernel
theorem dX7_learner_67 : decode cX7_learner 67 = .ok (.getfield 32, 3) := by decide +kernel
theorem dX7_learner_70 : decode cX7_learner 70 = .ok (.aload_n 0, 1) := by decide +kernel
theorem dX7_learner_71 : decode cX7_learner 71 = .ok (.getfield 73, 3) := by decide +kernel
theorem dX7_learner_74 : decode cX7_learner 74 = .ok (.iload_n 3, 1) := by decide +kernel
theorem dX7_learner_75 : decode cX7_learner 75 = .ok (.invokestatic 114, 3) := by decide +kernel
theorem dX7_learner_78 : decode cX7_learner 78 = .ok (.iconst 0, 1) := by decide +kernel
theorem dX7_learner_79 : decode cX7_learner 79 = .ok (.iastore, 1) := by decide +kernel
theorem dX7_learner_80 : decode cX7_learner 80 = .ok (.iinc 3 1, 3) := by decide +kernel
theorem dX7_learner_83 : decode cX7_learner 83 = .ok (.goto (-23), 3) := by decide +kernel
theorem dX7_learner_86 : decode cX7_learner 86 = .ok (.aload_n 0, 1) := by decide +kernel
theorem dX7_learner_87 : decode cX7_learner 87 = .ok (.dup, 1) := by decide +kernel
theorem dX7_learner_88 : decode cX7_learner 88 = .ok (.getfield 73, 3) := by decide +kernel
theorem dX7_learner_91 : decode cX7_learner 91 = .ok (.iconst 1, 1) := by decide +kernel
theorem dX7_learner_92 : decode cX7_learner 92 = .ok (.iadd, 1) := by decide +kernel
theorem dX7_learner_93 : decode cX7_learner 93 = .ok (.putfield 73, 3) := by decide +kernel
theorem dX7_learner_96 : decode cX7_learner 96 = .ok (.aload_n 0, 1) := by decide +kernel
theorem dX7_learner_97 : decode cX7_learner 97 = .ok (.getfield 73, 3) := by decide +kernel
theorem dX7_learner_100 : decode cX7_learner 100 = .ok (.iconst 1, 1) := by decide +kernel
theorem dX7_learner_101 : decode cX7_learner 101 = .ok (.isub, 1) := by decide +kernel
theorem dX7_learner_102 : decode cX7_learner 102 = .ok (.ireturn, 1) := by decide +kernel
theorem dX7_told_0 : decode cX7_told 0 = .ok (.iload_n 2, 1) := by decide +kernel
theorem dX7_told_1 : decode cX7_told 1 = .ok (.i2l, 1) := by decide +kernel
theorem dX7_told_2 : decode cX7_told 2 = .ok (.lconst 0, 1) := by decide +kernel
theorem dX7_told_3 : decode cX7_told 3 = .ok (.ldc2_w 80, 3) := by decide +kernel
theorem dX7_told_6 : decode cX7_told 6 = .ok (.invokestatic 76, 3) := by decide +kernel
theorem dX7_told_9 : decode cX7_told 9 = .ok (.ifCond .ne 31, 3) := by decide +kernel
theorem dX7_told_12 : decode cX7_told 12 = .ok (.iload_n 2, 1) := by decide +kernel
theorem dX7_told_13 : decode cX7_told 13 = .ok (.i2l, 1) := by decide +kernel
theorem dX7_told_14 : decode cX7_told 14 = .ok (.ldc2_w 91, 3) := by decide +kernel
theorem dX7_told_17 : decode cX7_told 17 = .ok (.ldc2_w 93, 3) := by decide +kernel
theorem dX7_told_20 : decode cX7_told 20 = .ok (.invokestatic 76, 3) := by decide +kernel
theorem dX7_told_23 : decode cX7_told 23 = .ok (.ifCond .ne 17, 3) := by decide +kernel
theorem dX7_told_26 : decode cX7_told 26 = .ok (.iload_n 2, 1) := by decide +kernel
theorem dX7_told_27 : decode cX7_told 27 = .ok (.i2l, 1) := by decide +kernel
theorem dX7_told_28 : decode cX7_told 28 = .ok (.ldc2_w 124, 3) := by decide +kernel
theorem dX7_told_31 : decode cX7_told 31 = .ok (.ldc2_w 126, 3) := by decide +kernel
theorem dX7_told_34 : decode cX7_told 34 = .ok (.invokestatic 76, 3) := by decide +kernel
theorem dX7_told_37 : decode cX7_told 37 = .ok (.ifCond .eq 12, 3) := by decide +kernel
theorem dX7_told_40 : decode cX7_told 40 = .ok (.aload_n 0, 1) := by decide +kernel
theorem dX7_told_41 : decode cX7_told 41 = .ok (.iload_n 2, 1) := by decide +kernel
theorem dX7_told_42 : decode cX7_told 42 = .ok (.iload_n 1, 1) := by decide +kernel
theorem dX7_told_43 : decode cX7_told 43 = .ok (.invokevirtual 95, 3) := by decide +kernel
theorem dX7_told_46 : decode cX7_told 46 = .ok (.ifCond .ne 6, 3) := by decide +kernel
theorem dX7_told_49 : decode cX7_told 49 = .ok (.bipush (-2), 2) := by decide +kernel
theorem dX7_told_51 : decode cX7_told 51 = .ok (.ireturn, 1) := by decide +kernel
theorem dX7_told_52 : decode cX7_told 52 = .ok (.iload_n 2, 1) := by decide +kernel
theorem dX7_told_53 : decode cX7_told 53 = .ok (.iconst 5, 1) := by decide +kernel
theorem dX7_told_54 : decode cX7_told 54 = .ok (.if_icmp .ge 55, 3) := by decide +kernel
theorem dX7_told_57 : decode cX7_told 57 = .ok (.iload_n 2, 1) := by decide +kernel
theorem dX7_told_58 : decode cX7_told 58 = .ok (.ifCond .ne 10, 3) := by decide +kernel
theorem dX7_told_61 : decode cX7_told 61 = .ok (.aload_n 0, 1) := by decide +kernel
theorem dX7_told_62 : decode cX7_told 62 = .ok (.getfield 111, 3) := by decide +kernel
theorem dX7_told_65 : decode cX7_told 65 = .ok (.goto 43, 3) := by decide +kernel
theorem dX7_told_68 : decode cX7_told 68 = .ok (.iload_n 2, 1) := by decide +kernel
theorem dX7_told_69 : decode cX7_told 69 = .ok (.iconst 1, 1) := by decide +kernel
theorem dX7_told_70 : decode cX7_told 70 = .ok (.if_icmp .ne 12, 3) := by decide +kernel
theorem dX7_told_73 : decode cX7_told 73 = .ok (.aload_n 0, 1) := by decide +kernel
theorem dX7_told_74 : decode cX7_told 74 = .ok (.getfield 23, 3) := by decide +kernel
theorem dX7_told_77 : decode cX7_told 77 = .ok (.iload_n 1, 1) := by decide +kernel
theorem dX7_told_78 : decode cX7_told 78 = .ok (.iaload, 1) := by decide +kernel
theorem dX7_told_79 : decode cX7_told 79 = .ok (.goto 29, 3) := by decide +kernel
theorem dX7_told_82 : decode cX7_told 82 = .ok (.iload_n 2, 1) := by decide +kernel
theorem dX7_told_83 : decode cX7_told 83 = .ok (.iconst 2, 1) := by decide +kernel
theorem dX7_told_84 : decode cX7_told 84 = .ok (.if_icmp .ne 12, 3) := by decide +kernel
theorem dX7_told_87 : decode cX7_told 87 = .ok (.aload_n 0, 1) := by decide +kernel
theorem dX7_told_88 : decode cX7_told 88 = .ok (.getfield 29, 3) := by decide +kernel
theorem dX7_told_91 : decode cX7_told 91 = .ok (.iload_n 1, 1) := by decide +kernel
theorem dX7_told_92 : decode cX7_told 92 = .ok (.iaload, 1) := by decide +kernel
theorem dX7_told_93 : decode cX7_told 93 = .ok (.goto 15, 3) := by decide +kernel
theorem dX7_told_96 : decode cX7_told 96 = .ok (.aload_n 0, 1) := by decide +kernel
theorem dX7_told_97 : decode cX7_told 97 = .ok (.getfield 32, 3) := by decide +kernel
theorem dX7_told_100 : decode cX7_told 100 = .ok (.iload_n 1, 1) := by decide +kernel
theorem dX7_told_101 : decode cX7_told 101 = .ok (.iload_n 2, 1) := by decide +kernel
theorem dX7_told_102 : decode cX7_told 102 = .ok (.iconst 5, 1) := by decide +kernel
theorem dX7_told_103 : decode cX7_told 103 = .ok (.iadd, 1) := by decide +kernel
theorem dX7_told_104 : decode cX7_told 104 = .ok (.invokestatic 114, 3) := by decide +kernel
theorem dX7_told_107 : decode cX7_told 107 = .ok (.iaload, 1) := by decide +kernel
theorem dX7_told_108 : decode cX7_told 108 = .ok (.ireturn, 1) := by decide +kernel
theorem dX7_told_109 : decode cX7_told 109 = .ok (.iload_n 2, 1) := by decide +kernel
theorem dX7_told_110 : decode cX7_told 110 = .ok (.bipush 9, 2) := by decide +kernel
theorem dX7_told_112 : decode cX7_told 112 = .ok (.if_icmp .le 43, 3) := by decide +kernel
theorem dX7_told_115 : decode cX7_told 115 = .ok (.iload_n 2, 1) := by decide +kernel
theorem dX7_told_116 : decode cX7_told 116 = .ok (.bipush 20, 2) := by decide +kernel
theorem dX7_told_118 : decode cX7_told 118 = .ok (.if_icmp .ge 19, 3) := by decide +kernel
theorem dX7_told_121 : decode cX7_told 121 = .ok (.aload_n 0, 1) := by decide +kernel
theorem dX7_told_122 : decode cX7_told 122 = .ok (.getfield 32, 3) := by decide +kernel
theorem dX7_told_125 : decode cX7_told 125 = .ok (.iload_n 1, 1) := by decide +kernel
theorem dX7_told_126 : decode cX7_told 126 = .ok (.iload_n 2, 1) := by decide +kernel
theorem dX7_told_127 : decode cX7_told 127 = .ok (.bipush 10, 2) := by decide +kernel
theorem dX7_told_129 : decode cX7_told 129 = .ok (.isub, 1) := by decide +kernel
theorem dX7_told_130 : decode cX7_told 130 = .ok (.invokestatic 114, 3) := by decide +kernel
theorem dX7_told_133 : decode cX7_told 133 = .ok (.iaload, 1) := by decide +kernel
theorem dX7_told_134 : decode cX7_told 134 = .ok (.goto 20, 3) := by decide +kernel
theorem dX7_told_137 : decode cX7_told 137 = .ok (.aload_n 0, 1) := by decide +kernel
theorem dX7_told_138 : decode cX7_told 138 = .ok (.iload_n 1, 1) := by decide +kernel
theorem dX7_told_139 : decode cX7_told 139 = .ok (.iload_n 2, 1) := by decide +kernel
theorem dX7_told_140 : decode cX7_told 140 = .ok (.bipush 20, 2) := by decide +kernel
theorem dX7_told_142 : decode cX7_told 142 = .ok (.isub, 1) := by decide +kernel
theorem dX7_told_143 : decode cX7_told 143 = .ok (.invokevirtual 128, 3) := by decide +kernel
theorem dX7_told_146 : decode cX7_told 146 = .ok (.ifCond .eq 7, 3) := by decide +kernel
theorem dX7_told_149 : decode cX7_told 149 = .ok (.iconst 1, 1) := by decide +kernel
theorem dX7_told_150 : decode cX7_told 150 = .ok (.goto 4, 3) := by decide +kernel
theorem dX7_told_153 : decode cX7_told 153 = .ok (.iconst 0, 1) := by decide +kernel
theorem dX7_told_154 : decode cX7_told 154 = .ok (.ireturn, 1) := by decide +kernel
theorem dX7_told_155 : decode cX7_told 155 = .ok (.iload_n 2, 1) := by decide +kernel
theorem dX7_told_156 : decode cX7_told 156 = .ok (.iconst 5, 1) := by decide +kernel
theorem dX7_told_157 : decode cX7_told 157 = .ok (.if_icmp .ne 12, 3) := by decide +kernel
theorem dX7_told_160 : decode cX7_told 160 = .ok (.aload_n 0, 1) := by decide +kernel
theorem dX7_told_161 : decode cX7_told 161 = .ok (.getfield 26, 3) := by decide +kernel
theorem dX7_told_164 : decode cX7_told 164 = .ok (.iload_n 1, 1) := by decide +kernel
theorem dX7_told_165 : decode cX7_told 165 = .ok (.iaload, 1) := by decide +kernel
theorem dX7_told_166 : decode cX7_told 166 = .ok (.goto 32, 3) := by decide +kernel
theorem dX7_told_169 : decode cX7_told 169 = .ok (.iload_n 2, 1) := by decide +kernel
theorem dX7_told_170 : decode cX7_told 170 = .ok (.bipush 7, 2) := by decide +kernel
theorem dX7_told_172 : decode cX7_told 172 = .ok (.if_icmp .ne 11, 3) := by decide +kernel
theorem dX7_told_175 : decode cX7_told 175 = .ok (.aload_n 0, 1) := by decide +kernel
theorem dX7_told_176 : decode cX7_told 176 = .ok (.iload_n 1, 1) := by decide +kernel
theorem dX7_told_177 : decode cX7_told 177 = .ok (.invokevirtual 131, 3) := by decide +kernel
theorem dX7_told_180 : decode cX7_told 180 = .ok (.goto 18, 3) := by decide +kernel
theorem dX7_told_183 : decode cX7_told 183 = .ok (.aload_n 0, 1) := by decide +kernel
theorem dX7_told_184 : decode cX7_told 184 = .ok (.iload_n 1, 1) := by decide +kernel
theorem dX7_told_185 : decode cX7_told 185 = .ok (.invokevirtual 131, 3) := by decide +kernel
theorem dX7_told_188 : decode cX7_told 188 = .ok (.bipush 8, 2) := by decide +kernel
theorem dX7_told_190 : decode cX7_told 190 = .ok (.if_icmp .ne 7, 3) := by decide +kernel
theorem dX7_told_193 : decode cX7_told 193 = .ok (.iconst 1, 1) := by decide +kernel
theorem dX7_told_194 : decode cX7_told 194 = .ok (.goto 4, 3) := by decide +kernel
theorem dX7_told_197 : decode cX7_told 197 = .ok (.iconst 0, 1) := by decide +kernel
theorem dX7_told_198 : decode cX7_told 198 = .ok (.ireturn, 1) := by decide +kernel
theorem dX7_feed_0 : decode cX7_feed 0 = .ok (.iload_n 1, 1) := by decide +kernel
theorem dX7_feed_1 : decode cX7_feed 1 = .ok (.i2l, 1) := by decide +kernel
theorem dX7_feed_2 : decode cX7_feed 2 = .ok (.lconst 0, 1) := by decide +kernel
theorem dX7_feed_3 : decode cX7_feed 3 = .ok (.ldc2_w 134, 3) := by decide +kernel
theorem dX7_feed_6 : decode cX7_feed 6 = .ok (.invokestatic 76, 3) := by decide +kernel
theorem dX7_feed_9 : decode cX7_feed 9 = .ok (.ifCond .ne 6, 3) := by decide +kernel
theorem dX7_feed_12 : decode cX7_feed 12 = .ok (.bipush (-2), 2) := by decide +kernel
theorem dX7_feed_14 : decode cX7_feed 14 = .ok (.ireturn, 1) := by decide +kernel
theorem dX7_feed_15 : decode cX7_feed 15 = .ok (.aload_n 0, 1) := by decide +kernel
theorem dX7_feed_16 : decode cX7_feed 16 = .ok (.getfield 136, 3) := by decide +kernel
theorem dX7_feed_19 : decode cX7_feed 19 = .ok (.sipush 160, 3) := by decide +kernel
theorem dX7_feed_22 : decode cX7_feed 22 = .ok (.if_icmp .ne 6, 3) := by decide +kernel
theorem dX7_feed_25 : decode cX7_feed 25 = .ok (.bipush (-4), 2) := by decide +kernel
theorem dX7_feed_27 : decode cX7_feed 27 = .ok (.ireturn, 1) := by decide +kernel
theorem dX7_feed_28 : decode cX7_feed 28 = .ok (.aload_n 0, 1) := by decide +kernel
theorem dX7_feed_29 : decode cX7_feed 29 = .ok (.getfield 20, 3) := by decide +kernel
theorem dX7_feed_32 : decode cX7_feed 32 = .ok (.aload_n 0, 1) := by decide +kernel
theorem dX7_feed_33 : decode cX7_feed 33 = .ok (.getfield 136, 3) := by decide +kernel
theorem dX7_feed_36 : decode cX7_feed 36 = .ok (.iload_n 1, 1) := by decide +kernel
theorem dX7_feed_37 : decode cX7_feed 37 = .ok (.iastore, 1) := by decide +kernel
theorem dX7_feed_38 : decode cX7_feed 38 = .ok (.aload_n 0, 1) := by decide +kernel
theorem dX7_feed_39 : decode cX7_feed 39 = .ok (.dup, 1) := by decide +kernel
theorem dX7_feed_40 : decode cX7_feed 40 = .ok (.getfield 136, 3) := by decide +kernel
theorem dX7_feed_43 : decode cX7_feed 43 = .ok (.iconst 1, 1) := by decide +kernel
theorem dX7_feed_44 : decode cX7_feed 44 = .ok (.iadd, 1) := by decide +kernel
theorem dX7_feed_45 : decode cX7_feed 45 = .ok (.putfield 136, 3) := by decide +kernel
theorem dX7_feed_48 : decode cX7_feed 48 = .ok (.aload_n 0, 1) := by decide +kernel
theorem dX7_feed_49 : decode cX7_feed 49 = .ok (.getfield 136, 3) := by decide +kernel
theorem dX7_feed_52 : decode cX7_feed 52 = .ok (.ireturn, 1) := by decide +kernel
theorem dX7_byteAt_0 : decode cX7_byteAt 0 = .ok (.iload_n 1, 1) := by decide +kernel
theorem dX7_byteAt_1 : decode cX7_byteAt 1 = .ok (.aload_n 0, 1) := by decide +kernel
theorem dX7_byteAt_2 : decode cX7_byteAt 2 = .ok (.getfield 139, 3) := by decide +kernel
theorem dX7_byteAt_5 : decode cX7_byteAt 5 = .ok (.if_icmp .ge 17, 3) := by decide +kernel
theorem dX7_byteAt_8 : decode cX7_byteAt 8 = .ok (.aload_n 0, 1) := by decide +kernel
theorem dX7_byteAt_9 : decode cX7_byteAt 9 = .ok (.getfield 13, 3) := by decide +kernel
theorem dX7_byteAt_12 : decode cX7_byteAt 12 = .ok (.aload_n 0, 1) := by decide +kernel
theorem dX7_byteAt_13 : decode cX7_byteAt 13 = .ok (.getfield 142, 3) := by decide +kernel
theorem dX7_byteAt_16 : decode cX7_byteAt 16 = .ok (.iload_n 1, 1) := by decide +kernel
theorem dX7_byteAt_17 : decode cX7_byteAt 17 = .ok (.iadd, 1) := by decide +kernel
theorem dX7_byteAt_18 : decode cX7_byteAt 18 = .ok (.iaload, 1) := by decide +kernel
theorem dX7_byteAt_19 : decode cX7_byteAt 19 = .ok (.goto 4, 3) := by decide +kernel
theorem dX7_byteAt_22 : decode cX7_byteAt 22 = .ok (.iconst (-1), 1) := by decide +kernel
theorem dX7_byteAt_23 : decode cX7_byteAt 23 = .ok (.ireturn, 1) := by decide +kernel
theorem dX7_next_0 : decode cX7_next 0 = .ok (.aload_n 0, 1) := by decide +kernel
theorem dX7_next_1 : decode cX7_next 1 = .ok (.aload_n 0, 1) := by decide +kernel
theorem dX7_next_2 : decode cX7_next 2 = .ok (.getfield 145, 3) := by decide +kernel
theorem dX7_next_5 : decode cX7_next 5 = .ok (.invokevirtual 148, 3) := by decide +kernel
theorem dX7_next_8 : decode cX7_next 8 = .ok (.bipush 32, 2) := by decide +kernel
theorem dX7_next_10 : decode cX7_next 10 = .ok (.if_icmp .eq 16, 3) := by decide +kernel
theorem dX7_next_13 : decode cX7_next 13 = .ok (.aload_n 0, 1) := by decide +kernel
theorem dX7_next_14 : decode cX7_next 14 = .ok (.aload_n 0, 1) := by decide +kernel
theorem dX7_next_15 : decode cX7_next 15 = .ok (.getfield 145, 3) := by decide +kernel
theorem dX7_next_18 : decode cX7_next 18 = .ok (.invokevirtual 148, 3) := by decide +kernel
theorem dX7_next_21 : decode cX7_next 21 = .ok (.bipush 10, 2) := by decide +kernel
theorem dX7_next_23 : decode cX7_next 23 = .ok (.if_icmp .ne 16, 3) := by decide +kernel
theorem dX7_next_26 : decode cX7_next 26 = .ok (.aload_n 0, 1) := by decide +kernel
theorem dX7_next_27 : decode cX7_next 27 = .ok (.dup, 1) := by decide +kernel
theorem dX7_next_28 : decode cX7_next 28 = .ok (.getfield 145, 3) := by decide +kernel
theorem dX7_next_31 : decode cX7_next 31 = .ok (.iconst 1, 1) := by decide +kernel
theorem dX7_next_32 : decode cX7_next 32 = .ok (.iadd, 1) := by decide +kernel
theorem dX7_next_33 : decode cX7_next 33 = .ok (.putfield 145, 3) := by decide +kernel
theorem dX7_next_36 : decode cX7_next 36 = .ok (.goto (-36), 3) := by decide +kernel
theorem dX7_next_39 : decode cX7_next 39 = .ok (.aload_n 0, 1) := by decide +kernel
theorem dX7_next_40 : decode cX7_next 40 = .ok (.aload_n 0, 1) := by decide +kernel
theorem dX7_next_41 : decode cX7_next 41 = .ok (.getfield 145, 3) := by decide +kernel
theorem dX7_next_44 : decode cX7_next 44 = .ok (.putfield 151, 3) := by decide +kernel
theorem dX7_next_47 : decode cX7_next 47 = .ok (.aload_n 0, 1) := by decide +kernel
theorem dX7_next_48 : decode cX7_next 48 = .ok (.aload_n 0, 1) := by decide +kernel
theorem dX7_next_49 : decode cX7_next 49 = .ok (.getfield 145, 3) := by decide +kernel
theorem dX7_next_52 : decode cX7_next 52 = .ok (.invokevirtual 148, 3) := by decide +kernel
theorem dX7_next_55 : decode cX7_next 55 = .ok (.istore_n 1, 1) := by decide +kernel
theorem dX7_next_56 : decode cX7_next 56 = .ok (.aload_n 0, 1) := by decide +kernel
theorem dX7_next_57 : decode cX7_next 57 = .ok (.iconst 4, 1) := by decide +kernel
theorem dX7_next_58 : decode cX7_next 58 = .ok (.putfield 154, 3) := by decide +kernel
theorem dX7_next_61 : decode cX7_next 61 = .ok (.iload_n 1, 1) := by decide +kernel
theorem dX7_next_62 : decode cX7_next 62 = .ok (.ifCond .ge 19, 3) := by decide +kernel
theorem dX7_next_65 : decode cX7_next 65 = .ok (.aload_n 0, 1) := by decide +kernel
theorem dX7_next_66 : decode cX7_next 66 = .ok (.iconst 0, 1) := by decide +kernel
theorem dX7_next_67 : decode cX7_next 67 = .ok (.putfield 154, 3) := by decide +kernel
theorem dX7_next_70 : decode cX7_next 70 = .ok (.aload_n 0, 1) := by decide +kernel
theorem dX7_next_71 : decode cX7_next 71 = .ok (.aload_n 0, 1) := by decide +kernel
theorem dX7_next_72 : decode cX7_next 72 = .ok (.getfield 139, 3) := by decide +kernel
theorem dX7_next_75 : decode cX7_next 75 = .ok (.putfield 151, 3) := by decide +kernel
theorem dX7_next_78 : decode cX7_next 78 = .ok (.goto 243, 3) := by decide +kernel
theorem dX7_next_81 : decode cX7_next 81 = .ok (.iload_n 1, 1) := by decide +kernel
theorem dX7_next_82 : decode cX7_next 82 = .ok (.i2l, 1) := by decide +kernel
theorem dX7_next_83 : decode cX7_next 83 = .ok (.ldc2_w 157, 3) := by decide +kernel
theorem dX7_next_86 : decode cX7_next 86 = .ok (.ldc2_w 159, 3) := by decide +kernel
theorem dX7_next_89 : decode cX7_next 89 = .ok (.invokestatic 76, 3) := by decide +kernel
theorem dX7_next_92 : decode cX7_next 92 = .ok (.ifCond .eq 42, 3) := by decide +kernel
theorem dX7_next_95 : decode cX7_next 95 = .ok (.aload_n 0, 1) := by decide +kernel
theorem dX7_next_96 : decode cX7_next 96 = .ok (.iconst 1, 1) := by decide +kernel
theorem dX7_next_97 : decode cX7_next 97 = .ok (.putfield 154, 3) := by decide +kernel
theorem dX7_next_100 : decode cX7_next 100 = .ok (.aload_n 0, 1) := by decide +kernel
theorem dX7_next_101 : decode cX7_next 101 = .ok (.aload_n 0, 1) := by decide +kernel
theorem dX7_next_102 : decode cX7_next 102 = .ok (.getfield 145, 3) := by decide +kernel
theorem dX7_next_105 : decode cX7_next 105 = .ok (.invokevirtual 148, 3) := by decide +kernel
theorem dX7_next_108 : decode cX7_next 108 = .ok (.i2l, 1) := by decide +kernel
theorem dX7_next_109 : decode cX7_next 109 = .ok (.ldc2_w 157, 3) := by decide +kernel
theorem dX7_next_112 : decode cX7_next 112 = .ok (.ldc2_w 159, 3) := by decide +kernel
theorem dX7_next_115 : decode cX7_next 115 = .ok (.invokestatic 76, 3) := by decide +kernel
theorem dX7_next_118 : decode cX7_next 118 = .ok (.ifCond .eq 203, 3) := by decide +kernel
theorem dX7_next_121 : decode cX7_next 121 = .ok (.aload_n 0, 1) := by decide +kernel
theorem dX7_next_122 : decode cX7_next 122 = .ok (.dup, 1) := by decide +kernel
theorem dX7_next_123 : decode cX7_next 123 = .ok (.getfield 145, 3) := by decide +kernel
theorem dX7_next_126 : decode cX7_next 126 = .ok (.iconst 1, 1) := by decide +kernel
theorem dX7_next_127 : decode cX7_next 127 = .ok (.iadd, 1) := by decide +kernel
theorem dX7_next_128 : decode cX7_next 128 = .ok (.putfield 145, 3) := by decide +kernel
theorem dX7_next_131 : decode cX7_next 131 = .ok (.goto (-31), 3) := by decide +kernel
theorem dX7_next_134 : decode cX7_next 134 = .ok (.iload_n 1, 1) := by decide +kernel
theorem dX7_next_135 : decode cX7_next 135 = .ok (.i2l, 1) := by decide +kernel
theorem dX7_next_136 : decode cX7_next 136 = .ok (.ldc2_w 161, 3) := by decide +kernel
theorem dX7_next_139 : decode cX7_next 139 = .ok (.ldc2_w 163, 3) := by decide +kernel
theorem dX7_next_142 : decode cX7_next 142 = .ok (.invokestatic 76, 3) := by decide +kernel
theorem dX7_next_145 : decode cX7_next 145 = .ok (.ifCond .eq 107, 3) := by decide +kernel
theorem dX7_next_148 : decode cX7_next 148 = .ok (.aload_n 0, 1) := by decide +kernel
theorem dX7_next_149 : decode cX7_next 149 = .ok (.iconst 2, 1) := by decide +kernel
theorem dX7_next_150 : decode cX7_next 150 = .ok (.putfield 154, 3) := by decide +kernel
theorem dX7_next_153 : decode cX7_next 153 = .ok (.aload_n 0, 1) := by decide +kernel
theorem dX7_next_154 : decode cX7_next 154 = .ok (.lconst 0, 1) := by decide +kernel
theorem dX7_next_155 : decode cX7_next 155 = .ok (.putfield 165, 3) := by decide +kernel
theorem dX7_next_158 : decode cX7_next 158 = .ok (.iconst 0, 1) := by decide +kernel
theorem dX7_next_159 : decode cX7_next 159 = .ok (.istore_n 2, 1) := by decide +kernel
theorem dX7_next_160 : decode cX7_next 160 = .ok (.aload_n 0, 1) := by decide +kernel
theorem dX7_next_161 : decode cX7_next 161 = .ok (.aload_n 0, 1) := by decide +kernel
theorem dX7_next_162 : decode cX7_next 162 = .ok (.getfield 145, 3) := by decide +kernel
theorem dX7_next_165 : decode cX7_next 165 = .ok (.invokevirtual 148, 3) := by decide +kernel
theorem dX7_next_168 : decode cX7_next 168 = .ok (.i2l, 1) := by decide +kernel
theorem dX7_next_169 : decode cX7_next 169 = .ok (.ldc2_w 161, 3) := by decide +kernel
theorem dX7_next_172 : decode cX7_next 172 = .ok (.ldc2_w 163, 3) := by decide +kernel
theorem dX7_next_175 : decode cX7_next 175 = .ok (.invokestatic 76, 3) := by decide +kernel
theorem dX7_next_178 : decode cX7_next 178 = .ok (.ifCond .eq 57, 3) := by decide +kernel
theorem dX7_next_181 : decode cX7_next 181 = .ok (.aload_n 0, 1) := by decide +kernel
theorem dX7_next_182 : decode cX7_next 182 = .ok (.iload_n 2, 1) := by decide +kernel
theorem dX7_next_183 : decode cX7_next 183 = .ok (.iconst 4, 1) := by decide +kernel
theorem dX7_next_184 : decode cX7_next 184 = .ok (.if_icmp .ge 28, 3) := by decide +kernel
theorem dX7_next_187 : decode cX7_next 187 = .ok (.ldc2_w 91, 3) := by decide +kernel
theorem dX7_next_190 : decode cX7_next 190 = .ok (.aload_n 0, 1) := by decide +kernel
theorem dX7_next_191 : decode cX7_next 191 = .ok (.getfield 165, 3) := by decide +kernel
theorem dX7_next_194 : decode cX7_next 194 = .ok (.lmul, 1) := by decide +kernel
theorem dX7_next_195 : decode cX7_next 195 = .ok (.aload_n 0, 1) := by decide +kernel
theorem dX7_next_196 : decode cX7_next 196 = .ok (.aload_n 0, 1) := by decide +kernel
theorem dX7_next_197 : decode cX7_next 197 = .ok (.getfield 145, 3) := by decide +kernel
theorem dX7_next_200 : decode cX7_next 200 = .ok (.invokevirtual 148, 3) := by decide +kernel
theorem dX7_next_203 : decode cX7_next 203 = .ok (.i2l, 1) := by decide +kernel
theorem dX7_next_204 : decode cX7_next 204 = .ok (.ladd, 1) := by decide +kernel
theorem dX7_next_205 : decode cX7_next 205 = .ok (.ldc2_w 161, 3) := by decide +kernel
theorem dX7_next_208 : decode cX7_next 208 = .ok (.lsub, 1) := by decide +kernel
theorem dX7_next_209 : decode cX7_next 209 = .ok (.goto 7, 3) := by decide +kernel
theorem dX7_next_212 : decode cX7_next 212 = .ok (.aload_n 0, 1) := by decide +kernel
theorem dX7_next_213 : decode cX7_next 213 = .ok (.getfield 165, 3) := by decide +kernel
theorem dX7_next_216 : decode cX7_next 216 = .ok (.putfield 165, 3) := by decide +kernel
theorem dX7_next_219 : decode cX7_next 219 = .ok (.iinc 2 1, 3) := by decide +kernel
theorem dX7_next_222 : decode cX7_next 222 = .ok (.aload_n 0, 1) := by decide +kernel
theorem dX7_next_223 : decode cX7_next 223 = .ok (.dup, 1) := by decide +kernel
theorem dX7_next_224 : decode cX7_next 224 = .ok (.getfield 145, 3) := by decide +kernel
theorem dX7_next_227 : decode cX7_next 227 = .ok (.iconst 1, 1) := by decide +kernel
theorem dX7_next_228 : decode cX7_next 228 = .ok (.iadd, 1) := by decide +kernel
theorem dX7_next_229 : decode cX7_next 229 = .ok (.putfield 145, 3) := by decide +kernel
theorem dX7_next_232 : decode cX7_next 232 = .ok (.goto (-72), 3) := by decide +kernel
theorem dX7_next_235 : decode cX7_next 235 = .ok (.aload_n 0, 1) := by decide +kernel
theorem dX7_next_236 : decode cX7_next 236 = .ok (.iload_n 2, 1) := by decide +kernel
theorem dX7_next_237 : decode cX7_next 237 = .ok (.iconst 4, 1) := by decide +kernel
theorem dX7_next_238 : decode cX7_next 238 = .ok (.if_icmp .le 7, 3) := by decide +kernel
theorem dX7_next_241 : decode cX7_next 241 = .ok (.iconst 4, 1) := by decide +kernel
theorem dX7_next_242 : decode cX7_next 242 = .ok (.goto 4, 3) := by decide +kernel
theorem dX7_next_245 : decode cX7_next 245 = .ok (.iconst 2, 1) := by decide +kernel
theorem dX7_next_246 : decode cX7_next 246 = .ok (.putfield 154, 3) := by decide +kernel
theorem dX7_next_249 : decode cX7_next 249 = .ok (.goto 72, 3) := by decide +kernel
theorem dX7_next_252 : decode cX7_next 252 = .ok (.iload_n 1, 1) := by decide +kernel
theorem dX7_next_253 : decode cX7_next 253 = .ok (.bipush 40, 2) := by decide +kernel
theorem dX7_next_255 : decode cX7_next 255 = .ok (.if_icmp .eq 45, 3) := by decide +kernel
theorem dX7_next_258 : decode cX7_next 258 = .ok (.iload_n 1, 1) := by decide +kernel
theorem dX7_next_259 : decode cX7_next 259 = .ok (.bipush 41, 2) := by decide +kernel
theorem dX7_next_261 : decode cX7_next 261 = .ok (.if_icmp .eq 39, 3) := by decide +kernel
theorem dX7_next_264 : decode cX7_next 264 = .ok (.iload_n 1, 1) := by decide +kernel
theorem dX7_next_265 : decode cX7_next 265 = .ok (.bipush 59, 2) := by decide +kernel
theorem dX7_next_267 : decode cX7_next 267 = .ok (.if_icmp .eq 33, 3) := by decide +kernel
theorem dX7_next_270 : decode cX7_next 270 = .ok (.iload_n 1, 1) := by decide +kernel
theorem dX7_next_271 : decode cX7_next 271 = .ok (.bipush 43, 2) := by decide +kernel
theorem dX7_next_273 : decode cX7_next 273 = .ok (.if_icmp .eq 27, 3) := by decide +kernel
theorem dX7_next_276 : decode cX7_next 276 = .ok (.iload_n 1, 1) := by decide +kernel
theorem dX7_next_277 : decode cX7_next 277 = .ok (.bipush 45, 2) := by decide +kernel
theorem dX7_next_279 : decode cX7_next 279 = .ok (.if_icmp .eq 21, 3) := by decide +kernel
theorem dX7_next_282 : decode cX7_next 282 = .ok (.iload_n 1, 1) := by decide +kernel
theorem dX7_next_283 : decode cX7_next 283 = .ok (.bipush 42, 2) := by decide +kernel
theorem dX7_next_285 : decode cX7_next 285 = .ok (.if_icmp .eq 15, 3) := by decide +kernel
theorem dX7_next_288 : decode cX7_next 288 = .ok (.iload_n 1, 1) := by decide +kernel
theorem dX7_next_289 : decode cX7_next 289 = .ok (.bipush 60, 2) := by decide +kernel
theorem dX7_next_291 : decode cX7_next 291 = .ok (.if_icmp .eq 9, 3) := by decide +kernel
theorem dX7_next_294 : decode cX7_next 294 = .ok (.iload_n 1, 1) := by decide +kernel
theorem dX7_next_295 : decode cX7_next 295 = .ok (.bipush 61, 2) := by decide +kernel
theorem dX7_next_297 : decode cX7_next 297 = .ok (.if_icmp .ne 24, 3) := by decide +kernel
theorem dX7_next_300 : decode cX7_next 300 = .ok (.aload_n 0, 1) := by decide +kernel
theorem dX7_next_301 : decode cX7_next 301 = .ok (.iconst 3, 1) := by decide +kernel
theorem dX7_next_302 : decode cX7_next 302 = .ok (.putfield 154, 3) := by decide +kernel
theorem dX7_next_305 : decode cX7_next 305 = .ok (.aload_n 0, 1) := by decide +kernel
theorem dX7_next_306 : decode cX7_next 306 = .ok (.iload_n 1, 1) := by decide +kernel
theorem dX7_next_307 : decode cX7_next 307 = .ok (.i2l, 1) := by decide +kernel
theorem dX7_next_308 : decode cX7_next 308 = .ok (.putfield 165, 3) := by decide +kernel
theorem dX7_next_311 : decode cX7_next 311 = .ok (.aload_n 0, 1) := by decide +kernel
theorem dX7_next_312 : decode cX7_next 312 = .ok (.dup, 1) := by decide +kernel
theorem dX7_next_313 : decode cX7_next 313 = .ok (.getfield 145, 3) := by decide +kernel
theorem dX7_next_316 : decode cX7_next 316 = .ok (.iconst 1, 1) := by decide +kernel
theorem dX7_next_317 : decode cX7_next 317 = .ok (.iadd, 1) := by decide +kernel
theorem dX7_next_318 : decode cX7_next 318 = .ok (.putfield 145, 3) := by decide +kernel
theorem dX7_next_321 : decode cX7_next 321 = .ok (.return_, 1) := by decide +kernel
theorem dX7_fail_0 : decode cX7_fail 0 = .ok (.aload_n 0, 1) := by decide +kernel
theorem dX7_fail_1 : decode cX7_fail 1 = .ok (.getfield 169, 3) := by decide +kernel
theorem dX7_fail_4 : decode cX7_fail 4 = .ok (.ifCond .ne 16, 3) := by decide +kernel
theorem dX7_fail_7 : decode cX7_fail 7 = .ok (.aload_n 0, 1) := by decide +kernel
theorem dX7_fail_8 : decode cX7_fail 8 = .ok (.iconst 1, 1) := by decide +kernel
theorem dX7_fail_9 : decode cX7_fail 9 = .ok (.putfield 169, 3) := by decide +kernel
theorem dX7_fail_12 : decode cX7_fail 12 = .ok (.aload_n 0, 1) := by decide +kernel
theorem dX7_fail_13 : decode cX7_fail 13 = .ok (.aload_n 0, 1) := by decide +kernel
theorem dX7_fail_14 : decode cX7_fail 14 = .ok (.getfield 151, 3) := by decide +kernel
theorem dX7_fail_17 : decode cX7_fail 17 = .ok (.putfield 173, 3) := by decide +kernel
theorem dX7_fail_20 : decode cX7_fail 20 = .ok (.return_, 1) := by decide +kernel
theorem dX7_isLetter_0 : decode cX7_isLetter 0 = .ok (.aload_n 0, 1) := by decide +kernel
theorem dX7_isLetter_1 : decode cX7_isLetter 1 = .ok (.getfield 151, 3) := by decide +kernel
theorem dX7_isLetter_4 : decode cX7_isLetter 4 = .ok (.iload_n 1, 1) := by decide +kernel
theorem dX7_isLetter_5 : decode cX7_isLetter 5 = .ok (.iadd, 1) := by decide +kernel
theorem dX7_isLetter_6 : decode cX7_isLetter 6 = .ok (.aload_n 0, 1) := by decide +kernel
theorem dX7_isLetter_7 : decode cX7_isLetter 7 = .ok (.getfield 145, 3) := by decide +kernel
theorem dX7_isLetter_10 : decode cX7_isLetter 10 = .ok (.if_icmp .ge 25, 3) := by decide +kernel
theorem dX7_isLetter_13 : decode cX7_isLetter 13 = .ok (.aload_n 0, 1) := by decide +kernel
theorem dX7_isLetter_14 : decode cX7_isLetter 14 = .ok (.aload_n 0, 1) := by decide +kernel
theorem dX7_isLetter_15 : decode cX7_isLetter 15 = .ok (.getfield 151, 3) := by decide +kernel
theorem dX7_isLetter_18 : decode cX7_isLetter 18 = .ok (.iload_n 1, 1) := by decide +kernel
theorem dX7_isLetter_19 : decode cX7_isLetter 19 = .ok (.iadd, 1) := by decide +kernel
theorem dX7_isLetter_20 : decode cX7_isLetter 20 = .ok (.invokevirtual 148, 3) := by decide +kernel
theorem dX7_isLetter_23 : decode cX7_isLetter 23 = .ok (.iload_n 2, 1) := by decide +kernel
theorem dX7_isLetter_24 : decode cX7_isLetter 24 = .ok (.if_icmp .ne 7, 3) := by decide +kernel
theorem dX7_isLetter_27 : decode cX7_isLetter 27 = .ok (.iconst 1, 1) := by decide +kernel
theorem dX7_isLetter_28 : decode cX7_isLetter 28 = .ok (.goto 16, 3) := by decide +kernel
theorem dX7_isLetter_31 : decode cX7_isLetter 31 = .ok (.iconst 0, 1) := by decide +kernel
theorem dX7_isLetter_32 : decode cX7_isLetter 32 = .ok (.goto 12, 3) := by decide +kernel
theorem dX7_isLetter_35 : decode cX7_isLetter 35 = .ok (.iload_n 2, 1) := by decide +kernel
theorem dX7_isLetter_36 : decode cX7_isLetter 36 = .ok (.ifCond .ne 7, 3) := by decide +kernel
theorem dX7_isLetter_39 : decode cX7_isLetter 39 = .ok (.iconst 1, 1) := by decide +kernel
theorem dX7_isLetter_40 : decode cX7_isLetter 40 = .ok (.goto 4, 3) := by decide +kernel
theorem dX7_isLetter_43 : decode cX7_isLetter 43 = .ok (.iconst 0, 1) := by decide +kernel
theorem dX7_isLetter_44 : decode cX7_isLetter 44 = .ok (.ireturn, 1) := by decide +kernel
theorem dX7_isWord_0 : decode cX7_isWord 0 = .ok (.aload_n 0, 1) := by decide +kernel
theorem dX7_isWord_1 : decode cX7_isWord 1 = .ok (.getfield 169, 3) := by decide +kernel
theorem dX7_isWord_4 : decode cX7_isWord 4 = .ok (.ifCond .ne 108, 3) := by decide +kernel
theorem dX7_isWord_7 : decode cX7_isWord 7 = .ok (.aload_n 0, 1) := by decide +kernel
theorem dX7_isWord_8 : decode cX7_isWord 8 = .ok (.getfield 154, 3) := by decide +kernel
theorem dX7_isWord_11 : decode cX7_isWord 11 = .ok (.iconst 1, 1) := by decide +kernel
theorem dX7_isWord_12 : decode cX7_isWord 12 = .ok (.if_icmp .ne 100, 3) := by decide +kernel
theorem dX7_isWord_15 : decode cX7_isWord 15 = .ok (.aload_n 0, 1) := by decide +kernel
theorem dX7_isWord_16 : decode cX7_isWord 16 = .ok (.getfield 145, 3) := by decide +kernel
theorem dX7_isWord_19 : decode cX7_isWord 19 = .ok (.aload_n 0, 1) := by decide +kernel
theorem dX7_isWord_20 : decode cX7_isWord 20 = .ok (.getfield 151, 3) := by decide +kernel
theorem dX7_isWord_23 : decode cX7_isWord 23 = .ok (.bipush 8, 2) := by decide +kernel
theorem dX7_isWord_25 : decode cX7_isWord 25 = .ok (.iadd, 1) := by decide +kernel
theorem dX7_isWord_26 : decode cX7_isWord 26 = .ok (.if_icmp .gt 86, 3) := by decide +kernel
theorem dX7_isWord_29 : decode cX7_isWord 29 = .ok (.aload_n 0, 1) := by decide +kernel
theorem dX7_isWord_30 : decode cX7_isWord 30 = .ok (.iconst 0, 1) := by decide +kernel
theorem dX7_isWord_31 : decode cX7_isWord 31 = .ok (.iload_n 1, 1) := by decide +kernel
theorem dX7_isWord_32 : decode cX7_isWord 32 = .ok (.invokevirtual 176, 3) := by decide +kernel
theorem dX7_isWord_35 : decode cX7_isWord 35 = .ok (.ifCond .eq 77, 3) := by decide +kernel
theorem dX7_isWord_38 : decode cX7_isWord 38 = .ok (.aload_n 0, 1) := by decide +kernel
theorem dX7_isWord_39 : decode cX7_isWord 39 = .ok (.iconst 1, 1) := by decide +kernel
theorem dX7_isWord_40 : decode cX7_isWord 40 = .ok (.iload_n 2, 1) := by decide +kernel
theorem dX7_isWord_41 : decode cX7_isWord 41 = .ok (.invokevirtual 176, 3) := by decide +kernel
theorem dX7_isWord_44 : decode cX7_isWord 44 = .ok (.ifCond .eq 68, 3) := by decide +kernel
theorem dX7_isWord_47 : decode cX7_isWord 47 = .ok (.aload_n 0, 1) := by decide +kernel
theorem dX7_isWord_48 : decode cX7_isWord 48 = .ok (.iconst 2, 1) := by decide +kernel
theorem dX7_isWord_49 : decode cX7_isWord 49 = .ok (.iload_n 3, 1) := by decide +kernel
theorem dX7_isWord_50 : decode cX7_isWord 50 = .ok (.invokevirtual 176, 3) := by decide +kernel
theorem dX7_isWord_53 : decode cX7_isWord 53 = .ok (.ifCond .eq 59, 3) := by decide +kernel
theorem dX7_isWord_56 : decode cX7_isWord 56 = .ok (.aload_n 0, 1) := by decide +kernel
theorem dX7_isWord_57 : decode cX7_isWord 57 = .ok (.iconst 3, 1) := by decide +kernel
theorem dX7_isWord_58 : decode cX7_isWord 58 = .ok (.iload 4, 2) := by decide +kernel
theorem dX7_isWord_60 : decode cX7_isWord 60 = .ok (.invokevirtual 176, 3) := by decide +kernel
theorem dX7_isWord_63 : decode cX7_isWord 63 = .ok (.ifCond .eq 49, 3) := by decide +kernel
theorem dX7_isWord_66 : decode cX7_isWord 66 = .ok (.aload_n 0, 1) := by decide +kernel
theorem dX7_isWord_67 : decode cX7_isWord 67 = .ok (.iconst 4, 1) := by decide +kernel
theorem dX7_isWord_68 : decode cX7_isWord 68 = .ok (.iload 5, 2) := by decide +kernel
theorem dX7_isWord_70 : decode cX7_isWord 70 = .ok (.invokevirtual 176, 3) := by decide +kernel
theorem dX7_isWord_73 : decode cX7_isWord 73 = .ok (.ifCond .eq 39, 3) := by decide +kernel
theorem dX7_isWord_76 : decode cX7_isWord 76 = .ok (.aload_n 0, 1) := by decide +kernel
theorem dX7_isWord_77 : decode cX7_isWord 77 = .ok (.iconst 5, 1) := by decide +kernel
theorem dX7_isWord_78 : decode cX7_isWord 78 = .ok (.iload 6, 2) := by decide +kernel
theorem dX7_isWord_80 : decode cX7_isWord 80 = .ok (.invokevirtual 176, 3) := by decide +kernel
theorem dX7_isWord_83 : decode cX7_isWord 83 = .ok (.ifCond .eq 29, 3) := by decide +kernel
theorem dX7_isWord_86 : decode cX7_isWord 86 = .ok (.aload_n 0, 1) := by decide +kernel
theorem dX7_isWord_87 : decode cX7_isWord 87 = .ok (.bipush 6, 2) := by decide +kernel
theorem dX7_isWord_89 : decode cX7_isWord 89 = .ok (.iload 7, 2) := by decide +kernel
theorem dX7_isWord_91 : decode cX7_isWord 91 = .ok (.invokevirtual 176, 3) := by decide +kernel
theorem dX7_isWord_94 : decode cX7_isWord 94 = .ok (.ifCond .eq 18, 3) := by decide +kernel
theorem dX7_isWord_97 : decode cX7_isWord 97 = .ok (.aload_n 0, 1) := by decide +kernel
theorem dX7_isWord_98 : decode cX7_isWord 98 = .ok (.bipush 7, 2) := by decide +kernel
theorem dX7_isWord_100 : decode cX7_isWord 100 = .ok (.iload 8, 2) := by decide +kernel
theorem dX7_isWord_102 : decode cX7_isWord 102 = .ok (.invokevirtual 176, 3) := by decide +kernel
theorem dX7_isWord_105 : decode cX7_isWord 105 = .ok (.ifCond .eq 7, 3) := by decide +kernel
theorem dX7_isWord_108 : decode cX7_isWord 108 = .ok (.iconst 1, 1) := by decide +kernel
theorem dX7_isWord_109 : decode cX7_isWord 109 = .ok (.goto 4, 3) := by decide +kernel
theorem dX7_isWord_112 : decode cX7_isWord 112 = .ok (.iconst 0, 1) := by decide +kernel
theorem dX7_isWord_113 : decode cX7_isWord 113 = .ok (.ireturn, 1) := by decide +kernel
theorem dX7_isSign_0 : decode cX7_isSign 0 = .ok (.aload_n 0, 1) := by decide +kernel
theorem dX7_isSign_1 : decode cX7_isSign 1 = .ok (.getfield 169, 3) := by decide +kernel
theorem dX7_isSign_4 : decode cX7_isSign 4 = .ok (.ifCond .ne 25, 3) := by decide +kernel
theorem dX7_isSign_7 : decode cX7_isSign 7 = .ok (.aload_n 0, 1) := by decide +kernel
theorem dX7_isSign_8 : decode cX7_isSign 8 = .ok (.getfield 154, 3) := by decide +kernel
theorem dX7_isSign_11 : decode cX7_isSign 11 = .ok (.iconst 3, 1) := by decide +kernel
theorem dX7_isSign_12 : decode cX7_isSign 12 = .ok (.if_icmp .ne 17, 3) := by decide +kernel
theorem dX7_isSign_15 : decode cX7_isSign 15 = .ok (.aload_n 0, 1) := by decide +kernel
theorem dX7_isSign_16 : decode cX7_isSign 16 = .ok (.getfield 165, 3) := by decide +kernel
theorem dX7_isSign_19 : decode cX7_isSign 19 = .ok (.iload_n 1, 1) := by decide +kernel
theorem dX7_isSign_20 : decode cX7_isSign 20 = .ok (.i2l, 1) := by decide +kernel
theorem dX7_isSign_21 : decode cX7_isSign 21 = .ok (.lcmp, 1) := by decide +kernel
theorem dX7_isSign_22 : decode cX7_isSign 22 = .ok (.ifCond .ne 7, 3) := by decide +kernel
theorem dX7_isSign_25 : decode cX7_isSign 25 = .ok (.iconst 1, 1) := by decide +kernel
theorem dX7_isSign_26 : decode cX7_isSign 26 = .ok (.goto 4, 3) := by decide +kernel
theorem dX7_isSign_29 : decode cX7_isSign 29 = .ok (.iconst 0, 1) := by decide +kernel
theorem dX7_isSign_30 : decode cX7_isSign 30 = .ok (.ireturn, 1) := by decide +kernel
theorem dX7_opens_0 : decode cX7_opens 0 = .ok (.aload_n 0, 1) := by decide +kernel
theorem dX7_opens_1 : decode cX7_opens 1 = .ok (.getfield 179, 3) := by decide +kernel
theorem dX7_opens_4 : decode cX7_opens 4 = .ok (.iconst 5, 1) := by decide +kernel
theorem dX7_opens_5 : decode cX7_opens 5 = .ok (.if_icmp .ne 9, 3) := by decide +kernel
theorem dX7_opens_8 : decode cX7_opens 8 = .ok (.aload_n 0, 1) := by decide +kernel
theorem dX7_opens_9 : decode cX7_opens 9 = .ok (.invokevirtual 182, 3) := by decide +kernel
theorem dX7_opens_12 : decode cX7_opens 12 = .ok (.iconst 0, 1) := by decide +kernel
theorem dX7_opens_13 : decode cX7_opens 13 = .ok (.ireturn, 1) := by decide +kernel
theorem dX7_opens_14 : decode cX7_opens 14 = .ok (.aload_n 0, 1) := by decide +kernel
theorem dX7_opens_15 : decode cX7_opens 15 = .ok (.dup, 1) := by decide +kernel
theorem dX7_opens_16 : decode cX7_opens 16 = .ok (.getfield 179, 3) := by decide +kernel
theorem dX7_opens_19 : decode cX7_opens 19 = .ok (.iconst 1, 1) := by decide +kernel
theorem dX7_opens_20 : decode cX7_opens 20 = .ok (.iadd, 1) := by decide +kernel
theorem dX7_opens_21 : decode cX7_opens 21 = .ok (.putfield 179, 3) := by decide +kernel
theorem dX7_opens_24 : decode cX7_opens 24 = .ok (.aload_n 0, 1) := by decide +kernel
theorem dX7_opens_25 : decode cX7_opens 25 = .ok (.invokevirtual 185, 3) := by decide +kernel
theorem dX7_opens_28 : decode cX7_opens 28 = .ok (.iconst 1, 1) := by decide +kernel
theorem dX7_opens_29 : decode cX7_opens 29 = .ok (.ireturn, 1) := by decide +kernel
section SIM
variable {p : Program} {l : Launch} {e : Env} {R : Room} {s : State} {m : MethodId} {args : Array Value} {below : List Frame} {meth : Method} {c : Code} {D : va_G} {cA : Nat → ClassId} {ad : Nat → Nat} {bs n0 z0 d : Nat} {H0 : Heap} {rv : Option Value} {hf : aM} {E : Nat → List Value → aM → Option Value → aM → Prop} {X : aXt × Value}

set_option maxHeartbeats 4000000 in
set_option maxRecDepth 20000 in
theorem sm_X7_init_0 (hC : aC p s m args c cX7_init 2 RX7 D cA ad bs n0 H0 X) (hF : ∀ ml, ml ≤ 41 → aFit R d ml) (hRm : 16 ≤ R.frames ∧ 1000 ≤ R.locals) (hE : aCalls l D cA ad bs X d E) (hr : meth.sig.returnType = none) (hlk : meth.locks = false) (hin : meth.name = "<init>") : aSims (fun f i => aSim p l e R s m args below meth c (aEnd below s args D cA ad bs n0 z0 rv hf) 2 D cA ad bs n0 z0 H0 (apc pc_X7_init) rv hf E f i) (cd_X7_init_0) 0 := by
  unfold cd_X7_init_0
  refine aSims_c (i := 0) (s_aload_n hC dX7_init_0 rfl rfl) ?_
  refine aSims_c (i := 1) (s_objinit hC hRm dX7_init_1 rfl rfl w_838 ⟨w_117, w_118⟩) ?_
  refine aSims_c (i := 2) (s_aload_n hC dX7_init_4 rfl rfl) ?_
  refine aSims_c (i := 3) (s_sipush hC dX7_init_5 rfl rfl rfl) ?_
  refine aSims_c (i := 4) (s_newarray (t0 := 0) hC dX7_init_8 rfl rfl rfl (by decide) w_150) ?_
  refine aSims_c (i := 5) (s_putF hC dX7_init_10 rfl rfl w_843 rfl rfl inB7 tyX7_ok nmX7 (by decide) rfl rfl hin) ?_
  refine aSims_c (i := 6) (s_aload_n hC dX7_init_13 rfl rfl) ?_
  refine aSims_c (i := 7) (s_bipush hC dX7_init_14 rfl rfl rfl) ?_
  refine aSims_c (i := 8) (s_newarray (t0 := 0) hC dX7_init_16 rfl rfl rfl (by decide) w_150) ?_
  refine aSims_c (i := 9) (s_putF hC dX7_init_18 rfl rfl w_844 rfl rfl inB7 tyX7_ok nmX7 (by decide) rfl rfl hin) ?_
  refine aSims_c (i := 10) (s_aload_n hC dX7_init_21 rfl rfl) ?_
  refine aSims_c (i := 11) (s_sipush hC dX7_init_22 rfl rfl rfl) ?_
  refine aSims_c (i := 12) (s_newarray (t0 := 0) hC dX7_init_25 rfl rfl rfl (by decide) w_150) ?_
  refine aSims_c (i := 13) (s_putF hC dX7_init_27 rfl rfl w_847 rfl rfl inB7 tyX7_ok nmX7 (by decide) rfl rfl hin) ?_
  refine aSims_c (i := 14) (s_aload_n hC dX7_init_30 rfl rfl) ?_
  refine aSims_c (i := 15) (s_bipush hC dX7_init_31 rfl rfl rfl) ?_
  refine aSims_c (i := 16) (s_newarray (t0 := 0) hC dX7_init_33 rfl rfl rfl (by decide) w_150) ?_
  refine aSims_c (i := 17) (s_putF hC dX7_init_35 rfl rfl w_850 rfl rfl inB7 tyX7_ok nmX7 (by decide) rfl rfl hin) ?_
  refine aSims_c (i := 18) (s_aload_n hC dX7_init_38 rfl rfl) ?_
  refine aSims_c (i := 19) (s_iconst hC dX7_init_39 rfl rfl rfl) ?_
  refine aSims_c (i := 20) (s_newarray (t0 := 0) hC dX7_init_40 rfl rfl rfl (by decide) w_150) ?_
  refine aSims_c (i := 21) (s_putF hC dX7_init_42 rfl rfl w_851 rfl rfl inB7 tyX7_ok nmX7 (by decide) rfl rfl hin) ?_
  refine aSims_c (i := 22) (s_aload_n hC dX7_init_45 rfl rfl) ?_
  refine aSims_c (i := 23) (s_iconst hC dX7_init_46 rfl rfl rfl) ?_
  refine aSims_c (i := 24) (s_newarray (t0 := 0) hC dX7_init_47 rfl rfl rfl (by decide) w_150) ?_
  refine aSims_c (i := 25) (s_putF hC dX7_init_49 rfl rfl w_852 rfl rfl inB7 tyX7_ok nmX7 (by decide) rfl rfl hin) ?_
  refine aSims_c (i := 26) (s_aload_n hC dX7_init_52 rfl rfl) ?_
  refine aSims_c (i := 27) (s_bipush hC dX7_init_53 rfl rfl rfl) ?_
  refine aSims_c (i := 28) (s_newarray (t0 := 0) hC dX7_init_55 rfl rfl rfl (by decide) w_150) ?_
  refine aSims_c (i := 29) (s_putF hC dX7_init_57 rfl rfl w_853 rfl rfl inB7 tyX7_ok nmX7 (by decide) rfl rfl hin) ?_
  refine aSims_c (i := 30) (s_aload_n hC dX7_init_60 rfl rfl) ?_
  refine aSims_c (i := 31) (s_bipush hC dX7_init_61 rfl rfl rfl) ?_
  refine aSims_c (i := 32) (s_newarray (t0 := 0) hC dX7_init_63 rfl rfl rfl (by decide) w_150) ?_
  refine aSims_c (i := 33) (s_putF hC dX7_init_65 rfl rfl w_870 rfl rfl inB7 tyX7_ok nmX7 (by decide) rfl rfl hin) ?_
  refine aSims_c (i := 34) (s_aload_n hC dX7_init_68 rfl rfl) ?_
  refine aSims_c (i := 35) (s_iconst hC dX7_init_69 rfl rfl rfl) ?_
  refine aSims_c (i := 36) (s_newarray (t0 := 0) hC dX7_init_70 rfl rfl rfl (by decide) w_150) ?_
  refine aSims_c (i := 37) (s_putF hC dX7_init_72 rfl rfl w_872 rfl rfl inB7 tyX7_ok nmX7 (by decide) rfl rfl hin) ?_
  refine aSims_c (i := 38) (s_aload_n hC dX7_init_75 rfl rfl) ?_
  refine aSims_c (i := 39) (s_bipush hC dX7_init_76 rfl rfl rfl) ?_
  refine aSims_c (i := 40) (s_newarray (t0 := 0) hC dX7_init_78 rfl rfl rfl (by decide) w_150) ?_
  refine aSims_c (i := 41) (s_putF hC dX7_init_80 rfl rfl w_873 rfl rfl inB7 tyX7_ok nmX7 (by decide) rfl rfl hin) ?_
  refine aSims_c (i := 42) (s_aload_n hC dX7_init_83 rfl rfl) ?_
  refine aSims_c (i := 43) (s_iconst hC dX7_init_84 rfl rfl rfl) ?_
  refine aSims_c (i := 44) (s_newarray (t0 := 0) hC dX7_init_85 rfl rfl rfl (by decide) w_150) ?_
  refine aSims_c (i := 45) (s_putF hC dX7_init_87 rfl rfl w_874 rfl rfl inB7 tyX7_ok nmX7 (by decide) rfl rfl hin) ?_
  refine aSims_c (i := 46) (s_aload_n hC dX7_init_90 rfl rfl) ?_
  refine aSims_c (i := 47) (s_bipush hC dX7_init_91 rfl rfl rfl) ?_
  refine aSims_c (i := 48) (s_newarray (t0 := 0) hC dX7_init_93 rfl rfl rfl (by decide) w_150) ?_
  refine aSims_c (i := 49) (s_putF hC dX7_init_95 rfl rfl w_875 rfl rfl inB7 tyX7_ok nmX7 (by decide) rfl rfl hin) ?_
  refine aSims_c (i := 50) (s_aload_n hC dX7_init_98 rfl rfl) ?_
  refine aSims_c (i := 51) (s_iconst hC dX7_init_99 rfl rfl rfl) ?_
  refine aSims_c (i := 52) (s_put hC dX7_init_100 rfl rfl w_876 rfl rfl inB7 tyX7_ok nmX7 (by decide) rfl) ?_
  refine aSims_c (i := 53) (s_aload_n hC dX7_init_103 rfl rfl) ?_
  refine aSims_c (i := 54) (s_iconst hC dX7_init_104 rfl rfl rfl) ?_
  refine aSims_c (i := 55) (s_newarray (t0 := 1) hC dX7_init_105 rfl rfl rfl (by decide) w_966) ?_
  refine aSims_c (i := 56) (s_putF hC dX7_init_107 rfl rfl w_879 rfl rfl inB7 tyX7_ok nmX7 (by decide) rfl rfl hin) ?_
  refine aSims_c (i := 57) (s_aload_n hC dX7_init_110 rfl rfl) ?_
  refine aSims_c (i := 58) (s_iconst hC dX7_init_111 rfl rfl rfl) ?_
  refine aSims_c (i := 59) (s_newarray (t0 := 0) hC dX7_init_112 rfl rfl rfl (by decide) w_150) ?_
  refine aSims_c (i := 60) (s_putF hC dX7_init_114 rfl rfl w_880 rfl rfl inB7 tyX7_ok nmX7 (by decide) rfl rfl hin) ?_
  refine aSims_c (i := 61) (s_aload_n hC dX7_init_117 rfl rfl) ?_
  refine aSims_c (i := 62) (s_iconst hC dX7_init_118 rfl rfl rfl) ?_
  refine aSims_c (i := 63) (s_newarray (t0 := 0) hC dX7_init_119 rfl rfl rfl (by decide) w_150) ?_
  refine aSims_c (i := 64) (s_putF hC dX7_init_121 rfl rfl w_881 rfl rfl inB7 tyX7_ok nmX7 (by decide) rfl rfl hin) ?_
  refine aSims_c (i := 65) (s_aload_n hC dX7_init_124 rfl rfl) ?_
  refine aSims_c (i := 66) (s_sipush hC dX7_init_125 rfl rfl rfl) ?_
  refine aSims_c (i := 67) (s_newarray (t0 := 0) hC dX7_init_128 rfl rfl rfl (by decide) w_150) ?_
  refine aSims_c (i := 68) (s_putF hC dX7_init_130 rfl rfl w_882 rfl rfl inB7 tyX7_ok nmX7 (by decide) rfl rfl hin) ?_
  refine aSims_c (i := 69) (s_iconst hC dX7_init_133 rfl rfl rfl) ?_
  refine aSims_c (i := 70) (s_istore_n hC dX7_init_134 rfl rfl) ?_
  refine aSims_c (i := 71) (s_iload_n hC dX7_init_135 rfl rfl) ?_
  refine aSims_c (i := 72) (s_bipush hC dX7_init_136 rfl rfl rfl) ?_
  refine aSims_c (i := 73) (s_icmp_ge hC dX7_init_138 rfl rfl rfl) ?_
  refine aSims_c (i := 74) (s_aload_n hC dX7_init_141 rfl rfl) ?_
  refine aSims_c (i := 75) (s_get hC dX7_init_142 rfl rfl w_850 rfl rfl inB7 (by decide)) ?_
  refine aSims_c (i := 76) (s_iload_n hC dX7_init_145 rfl rfl) ?_
  refine aSims_c (i := 77) (s_bipush hC dX7_init_146 rfl rfl rfl) ?_
  refine aSims_c (i := 78) (s_iastore hC dX7_init_148 rfl rfl) ?_
  refine aSims_c (i := 79) (s_iinc hC dX7_init_149 rfl rfl) ?_
  refine aSims_c (i := 80) (s_goto hC dX7_init_152 rfl rfl) ?_
  refine aSims_c (i := 81) (s_aload_n hC dX7_init_155 rfl rfl) ?_
  refine aSims_c (i := 82) (s_iconst hC dX7_init_156 rfl rfl rfl) ?_
  refine aSims_c (i := 83) (s_bipush hC dX7_init_157 rfl rfl rfl) ?_
  refine aSims_c (i := 84) (s_bipush hC dX7_init_159 rfl rfl rfl) ?_
  refine aSims_c (i := 85) (s_bipush hC dX7_init_161 rfl rfl rfl) ?_
  refine aSims_c (i := 86) (s_bipush hC dX7_init_163 rfl rfl rfl) ?_
  refine aSims_c (i := 87) (s_bipush hC dX7_init_165 rfl rfl rfl) ?_
  refine aSims_c (i := 88) (s_bipush hC dX7_init_167 rfl rfl rfl) ?_
  refine aSims_c (i := 89) (s_bipush hC dX7_init_169 rfl rfl rfl) ?_
  refine aSims_c (i := 90) (s_bipush hC dX7_init_171 rfl rfl rfl) ?_
  refine aSims_c (i := 91) (s_callV (n := 9) hC dX7_init_173 rfl rfl (hE 114 _ _ _ _ rfl) (hF _ (by decide)) w_842 w_839 w_841 w_28 w_109 rfl (by decide +kernel)) ?_
  refine aSims_c (i := 92) (s_aload_n hC dX7_init_176 rfl rfl) ?_
  refine aSims_c (i := 93) (s_bipush hC dX7_init_177 rfl rfl rfl) ?_
  refine aSims_c (i := 94) (s_bipush hC dX7_init_179 rfl rfl rfl) ?_
  refine aSims_c (i := 95) (s_bipush hC dX7_init_181 rfl rfl rfl) ?_
  refine aSims_c (i := 96) (s_bipush hC dX7_init_183 rfl rfl rfl) ?_
  refine aSims_c (i := 97) (s_bipush hC dX7_init_185 rfl rfl rfl) ?_
  refine aSims_c (i := 98) (s_bipush hC dX7_init_187 rfl rfl rfl) ?_
  refine aSims_c (i := 99) (s_bipush hC dX7_init_189 rfl rfl rfl) ?_
  exact aSims_n
set_option maxHeartbeats 4000000 in
set_option maxRecDepth 20000 in
theorem sm_X7_init_1 (hC : aC p s m args c cX7_init 2 RX7 D cA ad bs n0 H0 X) (hF : ∀ ml, ml ≤ 41 → aFit R d ml) (hRm : 16 ≤ R.frames ∧ 1000 ≤ R.locals) (hE : aCalls l D cA ad bs X d E) (hr : meth.sig.returnType = none) (hlk : meth.locks = false) (hin : meth.name = "<init>") : aSims (fun f i => aSim p l e R s m args below meth c (aEnd below s args D cA ad bs n0 z0 rv hf) 2 D cA ad bs n0 z0 H0 (apc pc_X7_init) rv hf E f i) (cd_X7_init_1) 100 := by
  unfold cd_X7_init_1
  refine aSims_c (i := 100) (s_bipush hC dX7_init_191 rfl rfl rfl) ?_
  refine aSims_c (i := 101) (s_bipush hC dX7_init_193 rfl rfl rfl) ?_
  refine aSims_c (i := 102) (s_callV (n := 9) hC dX7_init_195 rfl rfl (hE 114 _ _ _ _ rfl) (hF _ (by decide)) w_842 w_839 w_841 w_28 w_109 rfl (by decide +kernel)) ?_
  refine aSims_c (i := 103) (s_aload_n hC dX7_init_198 rfl rfl) ?_
  refine aSims_c (i := 104) (s_bipush hC dX7_init_199 rfl rfl rfl) ?_
  refine aSims_c (i := 105) (s_bipush hC dX7_init_201 rfl rfl rfl) ?_
  refine aSims_c (i := 106) (s_bipush hC dX7_init_203 rfl rfl rfl) ?_
  refine aSims_c (i := 107) (s_bipush hC dX7_init_205 rfl rfl rfl) ?_
  refine aSims_c (i := 108) (s_bipush hC dX7_init_207 rfl rfl rfl) ?_
  refine aSims_c (i := 109) (s_bipush hC dX7_init_209 rfl rfl rfl) ?_
  refine aSims_c (i := 110) (s_bipush hC dX7_init_211 rfl rfl rfl) ?_
  refine aSims_c (i := 111) (s_bipush hC dX7_init_213 rfl rfl rfl) ?_
  refine aSims_c (i := 112) (s_bipush hC dX7_init_215 rfl rfl rfl) ?_
  refine aSims_c (i := 113) (s_callV (n := 9) hC dX7_init_217 rfl rfl (hE 114 _ _ _ _ rfl) (hF _ (by decide)) w_842 w_839 w_841 w_28 w_109 rfl (by decide +kernel)) ?_
  refine aSims_c (i := 114) (s_aload_n hC dX7_init_220 rfl rfl) ?_
  refine aSims_c (i := 115) (s_bipush hC dX7_init_221 rfl rfl rfl) ?_
  refine aSims_c (i := 116) (s_bipush hC dX7_init_223 rfl rfl rfl) ?_
  refine aSims_c (i := 117) (s_bipush hC dX7_init_225 rfl rfl rfl) ?_
  refine aSims_c (i := 118) (s_bipush hC dX7_init_227 rfl rfl rfl) ?_
  refine aSims_c (i := 119) (s_bipush hC dX7_init_229 rfl rfl rfl) ?_
  refine aSims_c (i := 120) (s_bipush hC dX7_init_231 rfl rfl rfl) ?_
  refine aSims_c (i := 121) (s_bipush hC dX7_init_233 rfl rfl rfl) ?_
  refine aSims_c (i := 122) (s_bipush hC dX7_init_235 rfl rfl rfl) ?_
  refine aSims_c (i := 123) (s_bipush hC dX7_init_237 rfl rfl rfl) ?_
  refine aSims_c (i := 124) (s_callV (n := 9) hC dX7_init_239 rfl rfl (hE 114 _ _ _ _ rfl) (hF _ (by decide)) w_842 w_839 w_841 w_28 w_109 rfl (by decide +kernel)) ?_
  refine aSims_c (i := 125) (s_aload_n hC dX7_init_242 rfl rfl) ?_
  refine aSims_c (i := 126) (s_bipush hC dX7_init_243 rfl rfl rfl) ?_
  refine aSims_c (i := 127) (s_bipush hC dX7_init_245 rfl rfl rfl) ?_
  refine aSims_c (i := 128) (s_bipush hC dX7_init_247 rfl rfl rfl) ?_
  refine aSims_c (i := 129) (s_bipush hC dX7_init_249 rfl rfl rfl) ?_
  refine aSims_c (i := 130) (s_bipush hC dX7_init_251 rfl rfl rfl) ?_
  refine aSims_c (i := 131) (s_bipush hC dX7_init_253 rfl rfl rfl) ?_
  refine aSims_c (i := 132) (s_bipush hC dX7_init_255 rfl rfl rfl) ?_
  refine aSims_c (i := 133) (s_bipush hC dX7_init_257 rfl rfl rfl) ?_
  refine aSims_c (i := 134) (s_bipush hC dX7_init_259 rfl rfl rfl) ?_
  refine aSims_c (i := 135) (s_callV (n := 9) hC dX7_init_261 rfl rfl (hE 114 _ _ _ _ rfl) (hF _ (by decide)) w_842 w_839 w_841 w_28 w_109 rfl (by decide +kernel)) ?_
  refine aSims_c (i := 136) (s_aload_n hC dX7_init_264 rfl rfl) ?_
  refine aSims_c (i := 137) (s_bipush hC dX7_init_265 rfl rfl rfl) ?_
  refine aSims_c (i := 138) (s_bipush hC dX7_init_267 rfl rfl rfl) ?_
  refine aSims_c (i := 139) (s_bipush hC dX7_init_269 rfl rfl rfl) ?_
  refine aSims_c (i := 140) (s_bipush hC dX7_init_271 rfl rfl rfl) ?_
  refine aSims_c (i := 141) (s_bipush hC dX7_init_273 rfl rfl rfl) ?_
  refine aSims_c (i := 142) (s_bipush hC dX7_init_275 rfl rfl rfl) ?_
  refine aSims_c (i := 143) (s_bipush hC dX7_init_277 rfl rfl rfl) ?_
  refine aSims_c (i := 144) (s_bipush hC dX7_init_279 rfl rfl rfl) ?_
  refine aSims_c (i := 145) (s_bipush hC dX7_init_281 rfl rfl rfl) ?_
  refine aSims_c (i := 146) (s_callV (n := 9) hC dX7_init_283 rfl rfl (hE 114 _ _ _ _ rfl) (hF _ (by decide)) w_842 w_839 w_841 w_28 w_109 rfl (by decide +kernel)) ?_
  refine aSims_c (i := 147) (s_aload_n hC dX7_init_286 rfl rfl) ?_
  refine aSims_c (i := 148) (s_get hC dX7_init_287 rfl rfl w_844 rfl rfl inB7 (by decide)) ?_
  refine aSims_c (i := 149) (s_iconst hC dX7_init_290 rfl rfl rfl) ?_
  refine aSims_c (i := 150) (s_bipush hC dX7_init_291 rfl rfl rfl) ?_
  refine aSims_c (i := 151) (s_iastore hC dX7_init_293 rfl rfl) ?_
  refine aSims_c (i := 152) (s_aload_n hC dX7_init_294 rfl rfl) ?_
  refine aSims_c (i := 153) (s_iconst hC dX7_init_295 rfl rfl rfl) ?_
  refine aSims_c (i := 154) (s_put hC dX7_init_296 rfl rfl w_845 rfl rfl inB7 tyX7_ok nmX7 (by decide) rfl) ?_
  refine aSims_c (i := 155) (s_vret hC dX7_init_299 rfl hr hlk) ?_
  exact aSims_n
theorem sm_X7_init (hC : aC p s m args c cX7_init 2 RX7 D cA ad bs n0 H0 X) (hF : ∀ ml, ml ≤ 41 → aFit R d ml) (hRm : 16 ≤ R.frames ∧ 1000 ≤ R.locals) (hE : aCalls l D cA ad bs X d E) (hr : meth.sig.returnType = none) (hlk : meth.locks = false) (hin : meth.name = "<init>") : aSims (fun f i => aSim p l e R s m args below meth c (aEnd below s args D cA ad bs n0 z0 rv hf) 2 D cA ad bs n0 z0 H0 (apc pc_X7_init) rv hf E f i) cd_X7_init 0 := aSims_a (sm_X7_init_0 hC hF hRm hE hr hlk hin) (sm_X7_init_1 hC hF hRm hE hr hlk hin)
set_option maxHeartbeats 4000000 in
set_option maxRecDepth 20000 in
theorem sm_X7_spell (hC : aC p s m args c cX7_spell 10 RX7 D cA ad bs n0 H0 X) (hF : ∀ ml, ml ≤ 41 → aFit R d ml) (hRm : 16 ≤ R.frames ∧ 1000 ≤ R.locals) (hE : aCalls l D cA ad bs X d E) (hr : meth.sig.returnType = none) (hlk : meth.locks = false) : aSims (fun f i => aSim p l e R s m args below meth c (aEnd below s args D cA ad bs n0 z0 rv hf) 10 D cA ad bs n0 z0 H0 (apc pc_X7_spell) rv hf E f i) (cd_X7_spell) 0 := by
  unfold cd_X7_spell
  refine aSims_c (i := 0) (s_aload_n hC dX7_spell_0 rfl rfl) ?_
  refine aSims_c (i := 1) (s_get hC dX7_spell_1 rfl rfl w_843 rfl rfl inB7 (by decide)) ?_
  refine aSims_c (i := 2) (s_iload_n hC dX7_spell_4 rfl rfl) ?_
  refine aSims_c (i := 3) (s_iload_n hC dX7_spell_5 rfl rfl) ?_
  refine aSims_c (i := 4) (s_iastore hC dX7_spell_6 rfl rfl) ?_
  refine aSims_c (i := 5) (s_aload_n hC dX7_spell_7 rfl rfl) ?_
  refine aSims_c (i := 6) (s_get hC dX7_spell_8 rfl rfl w_843 rfl rfl inB7 (by decide)) ?_
  refine aSims_c (i := 7) (s_iload_n hC dX7_spell_11 rfl rfl) ?_
  refine aSims_c (i := 8) (s_iconst hC dX7_spell_12 rfl rfl rfl) ?_
  refine aSims_c (i := 9) (s_iadd hC dX7_spell_13 rfl rfl) ?_
  refine aSims_c (i := 10) (s_iload_n hC dX7_spell_14 rfl rfl) ?_
  refine aSims_c (i := 11) (s_iastore hC dX7_spell_15 rfl rfl) ?_
  refine aSims_c (i := 12) (s_aload_n hC dX7_spell_16 rfl rfl) ?_
  refine aSims_c (i := 13) (s_get hC dX7_spell_17 rfl rfl w_843 rfl rfl inB7 (by decide)) ?_
  refine aSims_c (i := 14) (s_iload_n hC dX7_spell_20 rfl rfl) ?_
  refine aSims_c (i := 15) (s_iconst hC dX7_spell_21 rfl rfl rfl) ?_
  refine aSims_c (i := 16) (s_iadd hC dX7_spell_22 rfl rfl) ?_
  refine aSims_c (i := 17) (s_iload hC dX7_spell_23 rfl rfl) ?_
  refine aSims_c (i := 18) (s_iastore hC dX7_spell_25 rfl rfl) ?_
  refine aSims_c (i := 19) (s_aload_n hC dX7_spell_26 rfl rfl) ?_
  refine aSims_c (i := 20) (s_get hC dX7_spell_27 rfl rfl w_843 rfl rfl inB7 (by decide)) ?_
  refine aSims_c (i := 21) (s_iload_n hC dX7_spell_30 rfl rfl) ?_
  refine aSims_c (i := 22) (s_iconst hC dX7_spell_31 rfl rfl rfl) ?_
  refine aSims_c (i := 23) (s_iadd hC dX7_spell_32 rfl rfl) ?_
  refine aSims_c (i := 24) (s_iload hC dX7_spell_33 rfl rfl) ?_
  refine aSims_c (i := 25) (s_iastore hC dX7_spell_35 rfl rfl) ?_
  refine aSims_c (i := 26) (s_aload_n hC dX7_spell_36 rfl rfl) ?_
  refine aSims_c (i := 27) (s_get hC dX7_spell_37 rfl rfl w_843 rfl rfl inB7 (by decide)) ?_
  refine aSims_c (i := 28) (s_iload_n hC dX7_spell_40 rfl rfl) ?_
  refine aSims_c (i := 29) (s_iconst hC dX7_spell_41 rfl rfl rfl) ?_
  refine aSims_c (i := 30) (s_iadd hC dX7_spell_42 rfl rfl) ?_
  refine aSims_c (i := 31) (s_iload hC dX7_spell_43 rfl rfl) ?_
  refine aSims_c (i := 32) (s_iastore hC dX7_spell_45 rfl rfl) ?_
  refine aSims_c (i := 33) (s_aload_n hC dX7_spell_46 rfl rfl) ?_
  refine aSims_c (i := 34) (s_get hC dX7_spell_47 rfl rfl w_843 rfl rfl inB7 (by decide)) ?_
  refine aSims_c (i := 35) (s_iload_n hC dX7_spell_50 rfl rfl) ?_
  refine aSims_c (i := 36) (s_iconst hC dX7_spell_51 rfl rfl rfl) ?_
  refine aSims_c (i := 37) (s_iadd hC dX7_spell_52 rfl rfl) ?_
  refine aSims_c (i := 38) (s_iload hC dX7_spell_53 rfl rfl) ?_
  refine aSims_c (i := 39) (s_iastore hC dX7_spell_55 rfl rfl) ?_
  refine aSims_c (i := 40) (s_aload_n hC dX7_spell_56 rfl rfl) ?_
  refine aSims_c (i := 41) (s_get hC dX7_spell_57 rfl rfl w_843 rfl rfl inB7 (by decide)) ?_
  refine aSims_c (i := 42) (s_iload_n hC dX7_spell_60 rfl rfl) ?_
  refine aSims_c (i := 43) (s_bipush hC dX7_spell_61 rfl rfl rfl) ?_
  refine aSims_c (i := 44) (s_iadd hC dX7_spell_63 rfl rfl) ?_
  refine aSims_c (i := 45) (s_iload hC dX7_spell_64 rfl rfl) ?_
  refine aSims_c (i := 46) (s_iastore hC dX7_spell_66 rfl rfl) ?_
  refine aSims_c (i := 47) (s_aload_n hC dX7_spell_67 rfl rfl) ?_
  refine aSims_c (i := 48) (s_get hC dX7_spell_68 rfl rfl w_843 rfl rfl inB7 (by decide)) ?_
  refine aSims_c (i := 49) (s_iload_n hC dX7_spell_71 rfl rfl) ?_
  refine aSims_c (i := 50) (s_bipush hC dX7_spell_72 rfl rfl rfl) ?_
  refine aSims_c (i := 51) (s_iadd hC dX7_spell_74 rfl rfl) ?_
  refine aSims_c (i := 52) (s_iload hC dX7_spell_75 rfl rfl) ?_
  refine aSims_c (i := 53) (s_iastore hC dX7_spell_77 rfl rfl) ?_
  refine aSims_c (i := 54) (s_vret hC dX7_spell_78 rfl hr hlk) ?_
  exact aSims_n
set_option maxHeartbeats 4000000 in
set_option maxRecDepth 20000 in
theorem sm_X7_isOne (hC : aC p s m args c cX7_isOne 2 RX7 D cA ad bs n0 H0 X) (hF : ∀ ml, ml ≤ 41 → aFit R d ml) (hRm : 16 ≤ R.frames ∧ 1000 ≤ R.locals) (hE : aCalls l D cA ad bs X d E) (hr : meth.sig.returnType = (some .boolean)) (hlk : meth.locks = false) : aSims (fun f i => aSim p l e R s m args below meth c (aEnd below s args D cA ad bs n0 z0 rv hf) 2 D cA ad bs n0 z0 H0 (apc pc_X7_isOne) rv hf E f i) (cd_X7_isOne) 0 := by
  unfold cd_X7_isOne
  refine aSims_c (i := 0) (s_iload_n hC dX7_isOne_0 rfl rfl) ?_
  refine aSims_c (i := 1) (s_i2l hC dX7_isOne_1 rfl rfl) ?_
  refine aSims_c (i := 2) (s_lconst hC dX7_isOne_2 rfl rfl rfl) ?_
  refine aSims_c (i := 3) (s_aload_n hC dX7_isOne_3 rfl rfl) ?_
  refine aSims_c (i := 4) (s_get hC dX7_isOne_4 rfl rfl w_854 rfl rfl inB7 (by decide)) ?_
  refine aSims_c (i := 5) (s_iconst hC dX7_isOne_7 rfl rfl rfl) ?_
  refine aSims_c (i := 6) (s_isub hC dX7_isOne_8 rfl rfl) ?_
  refine aSims_c (i := 7) (s_i2l hC dX7_isOne_9 rfl rfl) ?_
  refine aSims_c (i := 8) (s_callS hC dX7_isOne_10 rfl rfl (hE 111 _ _ _ _ rfl) (hF _ (by decide)) w_974 w_972 w_973 w_109 (by decide +kernel)) ?_
  refine aSims_c (i := 9) (s_iret hC dX7_isOne_13 rfl hr hlk nar_qZ) ?_
  exact aSims_n
set_option maxHeartbeats 4000000 in
set_option maxRecDepth 20000 in
theorem sm_X7_isStreet (hC : aC p s m args c cX7_isStreet 1 RX7 D cA ad bs n0 H0 X) (hF : ∀ ml, ml ≤ 41 → aFit R d ml) (hRm : 16 ≤ R.frames ∧ 1000 ≤ R.locals) (hE : aCalls l D cA ad bs X d E) (hr : meth.sig.returnType = (some .boolean)) (hlk : meth.locks = false) : aSims (fun f i => aSim p l e R s m args below meth c (aEnd below s args D cA ad bs n0 z0 rv hf) 1 D cA ad bs n0 z0 H0 (apc pc_X7_isStreet) rv hf E f i) (cd_X7_isStreet) 0 := by
  unfold cd_X7_isStreet
  refine aSims_c (i := 0) (s_iload_n hC dX7_isStreet_0 rfl rfl) ?_
  refine aSims_c (i := 1) (s_i2l hC dX7_isStreet_1 rfl rfl) ?_
  refine aSims_c (i := 2) (s_lconst hC dX7_isStreet_2 rfl rfl rfl) ?_
  refine aSims_c (i := 3) (s_ldc2 hC dX7_isStreet_3 w_984 rfl rfl) ?_
  refine aSims_c (i := 4) (s_callS hC dX7_isStreet_6 rfl rfl (hE 111 _ _ _ _ rfl) (hF _ (by decide)) w_974 w_972 w_973 w_109 (by decide +kernel)) ?_
  refine aSims_c (i := 5) (s_iret hC dX7_isStreet_9 rfl hr hlk nar_qZ) ?_
  exact aSims_n
set_option maxHeartbeats 4000000 in
set_option maxRecDepth 20000 in
theorem sm_X7_at (hC : aC p s m args c cX7_at 2 RX7 D cA ad bs n0 H0 X) (hF : ∀ ml, ml ≤ 41 → aFit R d ml) (hRm : 16 ≤ R.frames ∧ 1000 ≤ R.locals) (hE : aCalls l D cA ad bs X d E) (hr : meth.sig.returnType = (some .int)) (hlk : meth.locks = false) : aSims (fun f i => aSim p l e R s m args below meth c (aEnd below s args D cA ad bs n0 z0 rv hf) 2 D cA ad bs n0 z0 H0 (apc pc_X7_at) rv hf E f i) (cd_X7_at) 0 := by
  unfold cd_X7_at
  refine aSims_c (i := 0) (s_bipush hC dX7_at_0 rfl rfl rfl) ?_
  refine aSims_c (i := 1) (s_iload_n hC dX7_at_2 rfl rfl) ?_
  refine aSims_c (i := 2) (s_imul hC dX7_at_3 rfl rfl) ?_
  refine aSims_c (i := 3) (s_iload_n hC dX7_at_4 rfl rfl) ?_
  refine aSims_c (i := 4) (s_iadd hC dX7_at_5 rfl rfl) ?_
  refine aSims_c (i := 5) (s_iret hC dX7_at_6 rfl hr hlk nar_qI) ?_
  exact aSims_n
set_option maxHeartbeats 4000000 in
set_option maxRecDepth 20000 in
theorem sm_X7_mostOf (hC : aC p s m args c cX7_mostOf 1 RX7 D cA ad bs n0 H0 X) (hF : ∀ ml, ml ≤ 41 → aFit R d ml) (hRm : 16 ≤ R.frames ∧ 1000 ≤ R.locals) (hE : aCalls l D cA ad bs X d E) (hr : meth.sig.returnType = (some .int)) (hlk : meth.locks = false) : aSims (fun f i => aSim p l e R s m args below meth c (aEnd below s args D cA ad bs n0 z0 rv hf) 1 D cA ad bs n0 z0 H0 (apc pc_X7_mostOf) rv hf E f i) (cd_X7_mostOf) 0 := by
  unfold cd_X7_mostOf
  refine aSims_c (i := 0) (s_iload_n hC dX7_mostOf_0 rfl rfl) ?_
  refine aSims_c (i := 1) (s_if_eq hC dX7_mostOf_1 rfl rfl rfl) ?_
  refine aSims_c (i := 2) (s_iload_n hC dX7_mostOf_4 rfl rfl) ?_
  refine aSims_c (i := 3) (s_iconst hC dX7_mostOf_5 rfl rfl rfl) ?_
  refine aSims_c (i := 4) (s_icmp_ne hC dX7_mostOf_6 rfl rfl rfl) ?_
  refine aSims_c (i := 5) (s_sipush hC dX7_mostOf_9 rfl rfl rfl) ?_
  refine aSims_c (i := 6) (s_goto hC dX7_mostOf_12 rfl rfl) ?_
  refine aSims_c (i := 7) (s_iload_n hC dX7_mostOf_15 rfl rfl) ?_
  refine aSims_c (i := 8) (s_iconst hC dX7_mostOf_16 rfl rfl rfl) ?_
  refine aSims_c (i := 9) (s_icmp_ne hC dX7_mostOf_17 rfl rfl rfl) ?_
  refine aSims_c (i := 10) (s_bipush hC dX7_mostOf_20 rfl rfl rfl) ?_
  refine aSims_c (i := 11) (s_goto hC dX7_mostOf_22 rfl rfl) ?_
  refine aSims_c (i := 12) (s_bipush hC dX7_mostOf_25 rfl rfl rfl) ?_
  refine aSims_c (i := 13) (s_iret hC dX7_mostOf_27 rfl hr hlk nar_qI) ?_
  exact aSims_n
set_option maxHeartbeats 4000000 in
set_option maxRecDepth 20000 in
theorem sm_X7_isOf (hC : aC p s m args c cX7_isOf 3 RX7 D cA ad bs n0 H0 X) (hF : ∀ ml, ml ≤ 41 → aFit R d ml) (hRm : 16 ≤ R.frames ∧ 1000 ≤ R.locals) (hE : aCalls l D cA ad bs X d E) (hr : meth.sig.returnType = (some .boolean)) (hlk : meth.locks = false) : aSims (fun f i => aSim p l e R s m args below meth c (aEnd below s args D cA ad bs n0 z0 rv hf) 3 D cA ad bs n0 z0 H0 (apc pc_X7_isOf) rv hf E f i) (cd_X7_isOf) 0 := by
  unfold cd_X7_isOf
  refine aSims_c (i := 0) (s_iload_n hC dX7_isOf_0 rfl rfl) ?_
  refine aSims_c (i := 1) (s_if_eq hC dX7_isOf_1 rfl rfl rfl) ?_
  refine aSims_c (i := 2) (s_iload_n hC dX7_isOf_4 rfl rfl) ?_
  refine aSims_c (i := 3) (s_iconst hC dX7_isOf_5 rfl rfl rfl) ?_
  refine aSims_c (i := 4) (s_icmp_ne hC dX7_isOf_6 rfl rfl rfl) ?_
  refine aSims_c (i := 5) (s_iload_n hC dX7_isOf_9 rfl rfl) ?_
  refine aSims_c (i := 6) (s_callS hC dX7_isOf_10 rfl rfl (hE 116 _ _ _ _ rfl) (hF _ (by decide)) w_983 w_981 w_982 w_109 (by decide +kernel)) ?_
  refine aSims_c (i := 7) (s_if_eq hC dX7_isOf_13 rfl rfl rfl) ?_
  refine aSims_c (i := 8) (s_goto hC dX7_isOf_16 rfl rfl) ?_
  refine aSims_c (i := 9) (s_aload_n hC dX7_isOf_19 rfl rfl) ?_
  refine aSims_c (i := 10) (s_iload_n hC dX7_isOf_20 rfl rfl) ?_
  refine aSims_c (i := 11) (s_callV (n := 1) hC dX7_isOf_21 rfl rfl (hE 115 _ _ _ _ rfl) (hF _ (by decide)) w_988 w_985 w_987 w_30 w_109 rfl (by decide +kernel)) ?_
  refine aSims_c (i := 12) (s_if_eq hC dX7_isOf_24 rfl rfl rfl) ?_
  refine aSims_c (i := 13) (s_iconst hC dX7_isOf_27 rfl rfl rfl) ?_
  refine aSims_c (i := 14) (s_goto hC dX7_isOf_28 rfl rfl) ?_
  refine aSims_c (i := 15) (s_iconst hC dX7_isOf_31 rfl rfl rfl) ?_
  refine aSims_c (i := 16) (s_iret hC dX7_isOf_32 rfl hr hlk nar_qZ) ?_
  exact aSims_n
set_option maxHeartbeats 4000000 in
set_option maxRecDepth 20000 in
theorem sm_X7_set (hC : aC p s m args c cX7_set 5 RX7 D cA ad bs n0 H0 X) (hF : ∀ ml, ml ≤ 41 → aFit R d ml) (hRm : 16 ≤ R.frames ∧ 1000 ≤ R.locals) (hE : aCalls l D cA ad bs X d E) (hr : meth.sig.returnType = (some .int)) (hlk : meth.locks = false) : aSims (fun f i => aSim p l e R s m args below meth c (aEnd below s args D cA ad bs n0 z0 rv hf) 5 D cA ad bs n0 z0 H0 (apc pc_X7_set) rv hf E f i) (cd_X7_set) 0 := by
  unfold cd_X7_set
  refine aSims_c (i := 0) (s_iload_n hC dX7_set_0 rfl rfl) ?_
  refine aSims_c (i := 1) (s_i2l hC dX7_set_1 rfl rfl) ?_
  refine aSims_c (i := 2) (s_lconst hC dX7_set_2 rfl rfl rfl) ?_
  refine aSims_c (i := 3) (s_ldc2 hC dX7_set_3 w_971 rfl rfl) ?_
  refine aSims_c (i := 4) (s_callS hC dX7_set_6 rfl rfl (hE 111 _ _ _ _ rfl) (hF _ (by decide)) w_974 w_972 w_973 w_109 (by decide +kernel)) ?_
  refine aSims_c (i := 5) (s_if_ne hC dX7_set_9 rfl rfl rfl) ?_
  refine aSims_c (i := 6) (s_iload_n hC dX7_set_12 rfl rfl) ?_
  refine aSims_c (i := 7) (s_i2l hC dX7_set_13 rfl rfl) ?_
  refine aSims_c (i := 8) (s_ldc2 hC dX7_set_14 w_975 rfl rfl) ?_
  refine aSims_c (i := 9) (s_ldc2 hC dX7_set_17 w_976 rfl rfl) ?_
  refine aSims_c (i := 10) (s_callS hC dX7_set_20 rfl rfl (hE 111 _ _ _ _ rfl) (hF _ (by decide)) w_974 w_972 w_973 w_109 (by decide +kernel)) ?_
  refine aSims_c (i := 11) (s_if_eq hC dX7_set_23 rfl rfl rfl) ?_
  refine aSims_c (i := 12) (s_aload_n hC dX7_set_26 rfl rfl) ?_
  refine aSims_c (i := 13) (s_iload_n hC dX7_set_27 rfl rfl) ?_
  refine aSims_c (i := 14) (s_iload_n hC dX7_set_28 rfl rfl) ?_
  refine aSims_c (i := 15) (s_callV (n := 2) hC dX7_set_29 rfl rfl (hE 119 _ _ _ _ rfl) (hF _ (by decide)) w_980 w_977 w_979 w_29 w_109 rfl (by decide +kernel)) ?_
  refine aSims_c (i := 16) (s_if_eq hC dX7_set_32 rfl rfl rfl) ?_
  refine aSims_c (i := 17) (s_iload_n hC dX7_set_35 rfl rfl) ?_
  refine aSims_c (i := 18) (s_i2l hC dX7_set_36 rfl rfl) ?_
  refine aSims_c (i := 19) (s_lconst hC dX7_set_37 rfl rfl rfl) ?_
  refine aSims_c (i := 20) (s_iload_n hC dX7_set_38 rfl rfl) ?_
  refine aSims_c (i := 21) (s_callS hC dX7_set_39 rfl rfl (hE 118 _ _ _ _ rfl) (hF _ (by decide)) w_991 w_989 w_990 w_109 (by decide +kernel)) ?_
  refine aSims_c (i := 22) (s_i2l hC dX7_set_42 rfl rfl) ?_
  refine aSims_c (i := 23) (s_callS hC dX7_set_43 rfl rfl (hE 111 _ _ _ _ rfl) (hF _ (by decide)) w_974 w_972 w_973 w_109 (by decide +kernel)) ?_
  refine aSims_c (i := 24) (s_if_ne hC dX7_set_46 rfl rfl rfl) ?_
  refine aSims_c (i := 25) (s_bipush hC dX7_set_49 rfl rfl rfl) ?_
  refine aSims_c (i := 26) (s_iret hC dX7_set_51 rfl hr hlk nar_qI) ?_
  refine aSims_c (i := 27) (s_aload_n hC dX7_set_52 rfl rfl) ?_
  refine aSims_c (i := 28) (s_iload_n hC dX7_set_53 rfl rfl) ?_
  refine aSims_c (i := 29) (s_iload_n hC dX7_set_54 rfl rfl) ?_
  refine aSims_c (i := 30) (s_callV (n := 2) hC dX7_set_55 rfl rfl (hE 123 _ _ _ _ rfl) (hF _ (by decide)) w_995 w_992 w_993 w_994 w_109 rfl (by decide +kernel)) ?_
  refine aSims_c (i := 31) (s_istore hC dX7_set_58 rfl rfl) ?_
  refine aSims_c (i := 32) (s_aload_n hC dX7_set_60 rfl rfl) ?_
  refine aSims_c (i := 33) (s_iload_n hC dX7_set_61 rfl rfl) ?_
  refine aSims_c (i := 34) (s_iload_n hC dX7_set_62 rfl rfl) ?_
  refine aSims_c (i := 35) (s_iload_n hC dX7_set_63 rfl rfl) ?_
  refine aSims_c (i := 36) (s_callV (n := 3) hC dX7_set_64 rfl rfl (hE 121 _ _ _ _ rfl) (hF _ (by decide)) w_1217 w_1214 w_1216 w_82 w_109 rfl (by decide +kernel)) ?_
  refine aSims_c (i := 37) (s_iload hC dX7_set_67 rfl rfl) ?_
  refine aSims_c (i := 38) (s_iret hC dX7_set_69 rfl hr hlk nar_qI) ?_
  exact aSims_n
set_option maxHeartbeats 4000000 in
set_option maxRecDepth 20000 in
theorem sm_X7_lays (hC : aC p s m args c cX7_lays 4 RX7 D cA ad bs n0 H0 X) (hF : ∀ ml, ml ≤ 41 → aFit R d ml) (hRm : 16 ≤ R.frames ∧ 1000 ≤ R.locals) (hE : aCalls l D cA ad bs X d E) (hr : meth.sig.returnType = none) (hlk : meth.locks = false) : aSims (fun f i => aSim p l e R s m args below meth c (aEnd below s args D cA ad bs n0 z0 rv hf) 4 D cA ad bs n0 z0 H0 (apc pc_X7_lays) rv hf E f i) (cd_X7_lays) 0 := by
  unfold cd_X7_lays
  refine aSims_c (i := 0) (s_iload_n hC dX7_lays_0 rfl rfl) ?_
  refine aSims_c (i := 1) (s_if_ne hC dX7_lays_1 rfl rfl rfl) ?_
  refine aSims_c (i := 2) (s_aload_n hC dX7_lays_4 rfl rfl) ?_
  refine aSims_c (i := 3) (s_iload_n hC dX7_lays_5 rfl rfl) ?_
  refine aSims_c (i := 4) (s_put hC dX7_lays_6 rfl rfl w_849 rfl rfl inB7 tyX7_ok nmX7 (by decide) rfl) ?_
  refine aSims_c (i := 5) (s_goto hC dX7_lays_9 rfl rfl) ?_
  refine aSims_c (i := 6) (s_iload_n hC dX7_lays_12 rfl rfl) ?_
  refine aSims_c (i := 7) (s_iconst hC dX7_lays_13 rfl rfl rfl) ?_
  refine aSims_c (i := 8) (s_icmp_ne hC dX7_lays_14 rfl rfl rfl) ?_
  refine aSims_c (i := 9) (s_aload_n hC dX7_lays_17 rfl rfl) ?_
  refine aSims_c (i := 10) (s_get hC dX7_lays_18 rfl rfl w_850 rfl rfl inB7 (by decide)) ?_
  refine aSims_c (i := 11) (s_iload_n hC dX7_lays_21 rfl rfl) ?_
  refine aSims_c (i := 12) (s_iload_n hC dX7_lays_22 rfl rfl) ?_
  refine aSims_c (i := 13) (s_iastore hC dX7_lays_23 rfl rfl) ?_
  refine aSims_c (i := 14) (s_goto hC dX7_lays_24 rfl rfl) ?_
  refine aSims_c (i := 15) (s_iload_n hC dX7_lays_27 rfl rfl) ?_
  refine aSims_c (i := 16) (s_iconst hC dX7_lays_28 rfl rfl rfl) ?_
  refine aSims_c (i := 17) (s_icmp_ne hC dX7_lays_29 rfl rfl rfl) ?_
  refine aSims_c (i := 18) (s_aload_n hC dX7_lays_32 rfl rfl) ?_
  refine aSims_c (i := 19) (s_get hC dX7_lays_33 rfl rfl w_852 rfl rfl inB7 (by decide)) ?_
  refine aSims_c (i := 20) (s_iload_n hC dX7_lays_36 rfl rfl) ?_
  refine aSims_c (i := 21) (s_iload_n hC dX7_lays_37 rfl rfl) ?_
  refine aSims_c (i := 22) (s_iastore hC dX7_lays_38 rfl rfl) ?_
  refine aSims_c (i := 23) (s_goto hC dX7_lays_39 rfl rfl) ?_
  refine aSims_c (i := 24) (s_iload_n hC dX7_lays_42 rfl rfl) ?_
  refine aSims_c (i := 25) (s_iconst hC dX7_lays_43 rfl rfl rfl) ?_
  refine aSims_c (i := 26) (s_icmp_ge hC dX7_lays_44 rfl rfl rfl) ?_
  refine aSims_c (i := 27) (s_aload_n hC dX7_lays_47 rfl rfl) ?_
  refine aSims_c (i := 28) (s_get hC dX7_lays_48 rfl rfl w_853 rfl rfl inB7 (by decide)) ?_
  refine aSims_c (i := 29) (s_iload_n hC dX7_lays_51 rfl rfl) ?_
  refine aSims_c (i := 30) (s_iload_n hC dX7_lays_52 rfl rfl) ?_
  refine aSims_c (i := 31) (s_iconst hC dX7_lays_53 rfl rfl rfl) ?_
  refine aSims_c (i := 32) (s_iadd hC dX7_lays_54 rfl rfl) ?_
  refine aSims_c (i := 33) (s_callS hC dX7_lays_55 rfl rfl (hE 117 _ _ _ _ rfl) (hF _ (by decide)) w_1000 w_998 w_999 w_109 (by decide +kernel)) ?_
  refine aSims_c (i := 34) (s_iload_n hC dX7_lays_58 rfl rfl) ?_
  refine aSims_c (i := 35) (s_iastore hC dX7_lays_59 rfl rfl) ?_
  refine aSims_c (i := 36) (s_goto hC dX7_lays_60 rfl rfl) ?_
  refine aSims_c (i := 37) (s_iload_n hC dX7_lays_63 rfl rfl) ?_
  refine aSims_c (i := 38) (s_bipush hC dX7_lays_64 rfl rfl rfl) ?_
  refine aSims_c (i := 39) (s_icmp_le hC dX7_lays_66 rfl rfl rfl) ?_
  refine aSims_c (i := 40) (s_aload_n hC dX7_lays_69 rfl rfl) ?_
  refine aSims_c (i := 41) (s_get hC dX7_lays_70 rfl rfl w_853 rfl rfl inB7 (by decide)) ?_
  refine aSims_c (i := 42) (s_iload_n hC dX7_lays_73 rfl rfl) ?_
  refine aSims_c (i := 43) (s_iload_n hC dX7_lays_74 rfl rfl) ?_
  refine aSims_c (i := 44) (s_bipush hC dX7_lays_75 rfl rfl rfl) ?_
  refine aSims_c (i := 45) (s_isub hC dX7_lays_77 rfl rfl) ?_
  refine aSims_c (i := 46) (s_callS hC dX7_lays_78 rfl rfl (hE 117 _ _ _ _ rfl) (hF _ (by decide)) w_1000 w_998 w_999 w_109 (by decide +kernel)) ?_
  refine aSims_c (i := 47) (s_iload_n hC dX7_lays_81 rfl rfl) ?_
  refine aSims_c (i := 48) (s_iastore hC dX7_lays_82 rfl rfl) ?_
  refine aSims_c (i := 49) (s_goto hC dX7_lays_83 rfl rfl) ?_
  refine aSims_c (i := 50) (s_iload_n hC dX7_lays_86 rfl rfl) ?_
  refine aSims_c (i := 51) (s_iconst hC dX7_lays_87 rfl rfl rfl) ?_
  refine aSims_c (i := 52) (s_icmp_ne hC dX7_lays_88 rfl rfl rfl) ?_
  refine aSims_c (i := 53) (s_aload_n hC dX7_lays_91 rfl rfl) ?_
  refine aSims_c (i := 54) (s_get hC dX7_lays_92 rfl rfl w_851 rfl rfl inB7 (by decide)) ?_
  refine aSims_c (i := 55) (s_iload_n hC dX7_lays_95 rfl rfl) ?_
  refine aSims_c (i := 56) (s_iload_n hC dX7_lays_96 rfl rfl) ?_
  refine aSims_c (i := 57) (s_iastore hC dX7_lays_97 rfl rfl) ?_
  refine aSims_c (i := 58) (s_goto hC dX7_lays_98 rfl rfl) ?_
  refine aSims_c (i := 59) (s_aload_n hC dX7_lays_101 rfl rfl) ?_
  refine aSims_c (i := 60) (s_iload_n hC dX7_lays_102 rfl rfl) ?_
  refine aSims_c (i := 61) (s_put hC dX7_lays_103 rfl rfl w_846 rfl rfl inB7 tyX7_ok nmX7 (by decide) rfl) ?_
  refine aSims_c (i := 62) (s_vret hC dX7_lays_106 rfl hr hlk) ?_
  exact aSims_n
set_option maxHeartbeats 4000000 in
set_option maxRecDepth 20000 in
theorem sm_X7_learner (hC : aC p s m args c cX7_learner 4 RX7 D cA ad bs n0 H0 X) (hF : ∀ ml, ml ≤ 41 → aFit R d ml) (hRm : 16 ≤ R.frames ∧ 1000 ≤ R.locals) (hE : aCalls l D cA ad bs X d E) (hr : meth.sig.returnType = (some .int)) (hlk : meth.locks = false) : aSims (fun f i => aSim p l e R s m args below meth c (aEnd below s args D cA ad bs n0 z0 rv hf) 4 D cA ad bs n0 z0 H0 (apc pc_X7_learner) rv hf E f i) (cd_X7_learner) 0 := by
  unfold cd_X7_learner
  refine aSims_c (i := 0) (s_iload_n hC dX7_learner_0 rfl rfl) ?_
  refine aSims_c (i := 1) (s_i2l hC dX7_learner_1 rfl rfl) ?_
  refine aSims_c (i := 2) (s_lconst hC dX7_learner_2 rfl rfl rfl) ?_
  refine aSims_c (i := 3) (s_ldc2 hC dX7_learner_3 w_1222 rfl rfl) ?_
  refine aSims_c (i := 4) (s_callS hC dX7_learner_6 rfl rfl (hE 111 _ _ _ _ rfl) (hF _ (by decide)) w_974 w_972 w_973 w_109 (by decide +kernel)) ?_
  refine aSims_c (i := 5) (s_if_eq hC dX7_learner_9 rfl rfl rfl) ?_
  refine aSims_c (i := 6) (s_iload_n hC dX7_learner_12 rfl rfl) ?_
  refine aSims_c (i := 7) (s_i2l hC dX7_learner_13 rfl rfl) ?_
  refine aSims_c (i := 8) (s_lconst hC dX7_learner_14 rfl rfl rfl) ?_
  refine aSims_c (i := 9) (s_ldc2 hC dX7_learner_15 w_1223 rfl rfl) ?_
  refine aSims_c (i := 10) (s_callS hC dX7_learner_18 rfl rfl (hE 111 _ _ _ _ rfl) (hF _ (by decide)) w_974 w_972 w_973 w_109 (by decide +kernel)) ?_
  refine aSims_c (i := 11) (s_if_ne hC dX7_learner_21 rfl rfl rfl) ?_
  refine aSims_c (i := 12) (s_bipush hC dX7_learner_24 rfl rfl rfl) ?_
  refine aSims_c (i := 13) (s_iret hC dX7_learner_26 rfl hr hlk nar_qI) ?_
  refine aSims_c (i := 14) (s_aload_n hC dX7_learner_27 rfl rfl) ?_
  refine aSims_c (i := 15) (s_get hC dX7_learner_28 rfl rfl w_854 rfl rfl inB7 (by decide)) ?_
  refine aSims_c (i := 16) (s_iconst hC dX7_learner_31 rfl rfl rfl) ?_
  refine aSims_c (i := 17) (s_icmp_ne hC dX7_learner_32 rfl rfl rfl) ?_
  refine aSims_c (i := 18) (s_bipush hC dX7_learner_35 rfl rfl rfl) ?_
  refine aSims_c (i := 19) (s_iret hC dX7_learner_37 rfl hr hlk nar_qI) ?_
  refine aSims_c (i := 20) (s_aload_n hC dX7_learner_38 rfl rfl) ?_
  refine aSims_c (i := 21) (s_get hC dX7_learner_39 rfl rfl w_851 rfl rfl inB7 (by decide)) ?_
  refine aSims_c (i := 22) (s_aload_n hC dX7_learner_42 rfl rfl) ?_
  refine aSims_c (i := 23) (s_get hC dX7_learner_43 rfl rfl w_854 rfl rfl inB7 (by decide)) ?_
  refine aSims_c (i := 24) (s_iload_n hC dX7_learner_46 rfl rfl) ?_
  refine aSims_c (i := 25) (s_iastore hC dX7_learner_47 rfl rfl) ?_
  refine aSims_c (i := 26) (s_aload_n hC dX7_learner_48 rfl rfl) ?_
  refine aSims_c (i := 27) (s_get hC dX7_learner_49 rfl rfl w_852 rfl rfl inB7 (by decide)) ?_
  refine aSims_c (i := 28) (s_aload_n hC dX7_learner_52 rfl rfl) ?_
  refine aSims_c (i := 29) (s_get hC dX7_learner_53 rfl rfl w_854 rfl rfl inB7 (by decide)) ?_
  refine aSims_c (i := 30) (s_iload_n hC dX7_learner_56 rfl rfl) ?_
  refine aSims_c (i := 31) (s_iastore hC dX7_learner_57 rfl rfl) ?_
  refine aSims_c (i := 32) (s_iconst hC dX7_learner_58 rfl rfl rfl) ?_
  refine aSims_c (i := 33) (s_istore_n hC dX7_learner_59 rfl rfl) ?_
  refine aSims_c (i := 34) (s_iload_n hC dX7_learner_60 rfl rfl) ?_
  refine aSims_c (i := 35) (s_bipush hC dX7_learner_61 rfl rfl rfl) ?_
  refine aSims_c (i := 36) (s_icmp_ge hC dX7_learner_63 rfl rfl rfl) ?_
  refine aSims_c (i := 37) (s_aload_n hC dX7_learner_66 rfl rfl) ?_
  refine aSims_c (i := 38) (s_get hC dX7_learner_67 rfl rfl w_853 rfl rfl inB7 (by decide)) ?_
  refine aSims_c (i := 39) (s_aload_n hC dX7_learner_70 rfl rfl) ?_
  refine aSims_c (i := 40) (s_get hC dX7_learner_71 rfl rfl w_854 rfl rfl inB7 (by decide)) ?_
  refine aSims_c (i := 41) (s_iload_n hC dX7_learner_74 rfl rfl) ?_
  refine aSims_c (i := 42) (s_callS hC dX7_learner_75 rfl rfl (hE 117 _ _ _ _ rfl) (hF _ (by decide)) w_1000 w_998 w_999 w_109 (by decide +kernel)) ?_
  refine aSims_c (i := 43) (s_iconst hC dX7_learner_78 rfl rfl rfl) ?_
  refine aSims_c (i := 44) (s_iastore hC dX7_learner_79 rfl rfl) ?_
  refine aSims_c (i := 45) (s_iinc hC dX7_learner_80 rfl rfl) ?_
  refine aSims_c (i := 46) (s_goto hC dX7_learner_83 rfl rfl) ?_
  refine aSims_c (i := 47) (s_aload_n hC dX7_learner_86 rfl rfl) ?_
  refine aSims_c (i := 48) (s_dup hC dX7_learner_87 rfl rfl) ?_
  refine aSims_c (i := 49) (s_get hC dX7_learner_88 rfl rfl w_854 rfl rfl inB7 (by decide)) ?_
  refine aSims_c (i := 50) (s_iconst hC dX7_learner_91 rfl rfl rfl) ?_
  refine aSims_c (i := 51) (s_iadd hC dX7_learner_92 rfl rfl) ?_
  refine aSims_c (i := 52) (s_put hC dX7_learner_93 rfl rfl w_854 rfl rfl inB7 tyX7_ok nmX7 (by decide) rfl) ?_
  refine aSims_c (i := 53) (s_aload_n hC dX7_learner_96 rfl rfl) ?_
  refine aSims_c (i := 54) (s_get hC dX7_learner_97 rfl rfl w_854 rfl rfl inB7 (by decide)) ?_
  refine aSims_c (i := 55) (s_iconst hC dX7_learner_100 rfl rfl rfl) ?_
  refine aSims_c (i := 56) (s_isub hC dX7_learner_101 rfl rfl) ?_
  refine aSims_c (i := 57) (s_iret hC dX7_learner_102 rfl hr hlk nar_qI) ?_
  exact aSims_n
set_option maxHeartbeats 4000000 in
set_option maxRecDepth 20000 in
theorem sm_X7_told (hC : aC p s m args c cX7_told 3 RX7 D cA ad bs n0 H0 X) (hF : ∀ ml, ml ≤ 41 → aFit R d ml) (hRm : 16 ≤ R.frames ∧ 1000 ≤ R.locals) (hE : aCalls l D cA ad bs X d E) (hr : meth.sig.returnType = (some .int)) (hlk : meth.locks = false) : aSims (fun f i => aSim p l e R s m args below meth c (aEnd below s args D cA ad bs n0 z0 rv hf) 3 D cA ad bs n0 z0 H0 (apc pc_X7_told) rv hf E f i) (cd_X7_told) 0 := by
  unfold cd_X7_told
  refine aSims_c (i := 0) (s_iload_n hC dX7_told_0 rfl rfl) ?_
  refine aSims_c (i := 1) (s_i2l hC dX7_told_1 rfl rfl) ?_
  refine aSims_c (i := 2) (s_lconst hC dX7_told_2 rfl rfl rfl) ?_
  refine aSims_c (i := 3) (s_ldc2 hC dX7_told_3 w_984 rfl rfl) ?_
  refine aSims_c (i := 4) (s_callS hC dX7_told_6 rfl rfl (hE 111 _ _ _ _ rfl) (hF _ (by decide)) w_974 w_972 w_973 w_109 (by decide +kernel)) ?_
  refine aSims_c (i := 5) (s_if_ne hC dX7_told_9 rfl rfl rfl) ?_
  refine aSims_c (i := 6) (s_iload_n hC dX7_told_12 rfl rfl) ?_
  refine aSims_c (i := 7) (s_i2l hC dX7_told_13 rfl rfl) ?_
  refine aSims_c (i := 8) (s_ldc2 hC dX7_told_14 w_975 rfl rfl) ?_
  refine aSims_c (i := 9) (s_ldc2 hC dX7_told_17 w_976 rfl rfl) ?_
  refine aSims_c (i := 10) (s_callS hC dX7_told_20 rfl rfl (hE 111 _ _ _ _ rfl) (hF _ (by decide)) w_974 w_972 w_973 w_109 (by decide +kernel)) ?_
  refine aSims_c (i := 11) (s_if_ne hC dX7_told_23 rfl rfl rfl) ?_
  refine aSims_c (i := 12) (s_iload_n hC dX7_told_26 rfl rfl) ?_
  refine aSims_c (i := 13) (s_i2l hC dX7_told_27 rfl rfl) ?_
  refine aSims_c (i := 14) (s_ldc2 hC dX7_told_28 w_996 rfl rfl) ?_
  refine aSims_c (i := 15) (s_ldc2 hC dX7_told_31 w_997 rfl rfl) ?_
  refine aSims_c (i := 16) (s_callS hC dX7_told_34 rfl rfl (hE 111 _ _ _ _ rfl) (hF _ (by decide)) w_974 w_972 w_973 w_109 (by decide +kernel)) ?_
  refine aSims_c (i := 17) (s_if_eq hC dX7_told_37 rfl rfl rfl) ?_
  refine aSims_c (i := 18) (s_aload_n hC dX7_told_40 rfl rfl) ?_
  refine aSims_c (i := 19) (s_iload_n hC dX7_told_41 rfl rfl) ?_
  refine aSims_c (i := 20) (s_iload_n hC dX7_told_42 rfl rfl) ?_
  refine aSims_c (i := 21) (s_callV (n := 2) hC dX7_told_43 rfl rfl (hE 119 _ _ _ _ rfl) (hF _ (by decide)) w_980 w_977 w_979 w_29 w_109 rfl (by decide +kernel)) ?_
  refine aSims_c (i := 22) (s_if_ne hC dX7_told_46 rfl rfl rfl) ?_
  refine aSims_c (i := 23) (s_bipush hC dX7_told_49 rfl rfl rfl) ?_
  refine aSims_c (i := 24) (s_iret hC dX7_told_51 rfl hr hlk nar_qI) ?_
  refine aSims_c (i := 25) (s_iload_n hC dX7_told_52 rfl rfl) ?_
  refine aSims_c (i := 26) (s_iconst hC dX7_told_53 rfl rfl rfl) ?_
  refine aSims_c (i := 27) (s_icmp_ge hC dX7_told_54 rfl rfl rfl) ?_
  refine aSims_c (i := 28) (s_iload_n hC dX7_told_57 rfl rfl) ?_
  refine aSims_c (i := 29) (s_if_ne hC dX7_told_58 rfl rfl rfl) ?_
  refine aSims_c (i := 30) (s_aload_n hC dX7_told_61 rfl rfl) ?_
  refine aSims_c (i := 31) (s_get hC dX7_told_62 rfl rfl w_849 rfl rfl inB7 (by decide)) ?_
  refine aSims_c (i := 32) (s_goto hC dX7_told_65 rfl rfl) ?_
  refine aSims_c (i := 33) (s_iload_n hC dX7_told_68 rfl rfl) ?_
  refine aSims_c (i := 34) (s_iconst hC dX7_told_69 rfl rfl rfl) ?_
  refine aSims_c (i := 35) (s_icmp_ne hC dX7_told_70 rfl rfl rfl) ?_
  refine aSims_c (i := 36) (s_aload_n hC dX7_told_73 rfl rfl) ?_
  refine aSims_c (i := 37) (s_get hC dX7_told_74 rfl rfl w_850 rfl rfl inB7 (by decide)) ?_
  refine aSims_c (i := 38) (s_iload_n hC dX7_told_77 rfl rfl) ?_
  refine aSims_c (i := 39) (s_iaload hC hX0 dX7_told_78 rfl rfl) ?_
  refine aSims_c (i := 40) (s_goto hC dX7_told_79 rfl rfl) ?_
  refine aSims_c (i := 41) (s_iload_n hC dX7_told_82 rfl rfl) ?_
  refine aSims_c (i := 42) (s_iconst hC dX7_told_83 rfl rfl rfl) ?_
  refine aSims_c (i := 43) (s_icmp_ne hC dX7_told_84 rfl rfl rfl) ?_
  refine aSims_c (i := 44) (s_aload_n hC dX7_told_87 rfl rfl) ?_
  refine aSims_c (i := 45) (s_get hC dX7_told_88 rfl rfl w_852 rfl rfl inB7 (by decide)) ?_
  refine aSims_c (i := 46) (s_iload_n hC dX7_told_91 rfl rfl) ?_
  refine aSims_c (i := 47) (s_iaload hC hX0 dX7_told_92 rfl rfl) ?_
  refine aSims_c (i := 48) (s_goto hC dX7_told_93 rfl rfl) ?_
  refine aSims_c (i := 49) (s_aload_n hC dX7_told_96 rfl rfl) ?_
  refine aSims_c (i := 50) (s_get hC dX7_told_97 rfl rfl w_853 rfl rfl inB7 (by decide)) ?_
  refine aSims_c (i := 51) (s_iload_n hC dX7_told_100 rfl rfl) ?_
  refine aSims_c (i := 52) (s_iload_n hC dX7_told_101 rfl rfl) ?_
  refine aSims_c (i := 53) (s_iconst hC dX7_told_102 rfl rfl rfl) ?_
  refine aSims_c (i := 54) (s_iadd hC dX7_told_103 rfl rfl) ?_
  refine aSims_c (i := 55) (s_callS hC dX7_told_104 rfl rfl (hE 117 _ _ _ _ rfl) (hF _ (by decide)) w_1000 w_998 w_999 w_109 (by decide +kernel)) ?_
  refine aSims_c (i := 56) (s_iaload hC hX0 dX7_told_107 rfl rfl) ?_
  refine aSims_c (i := 57) (s_iret hC dX7_told_108 rfl hr hlk nar_qI) ?_
  refine aSims_c (i := 58) (s_iload_n hC dX7_told_109 rfl rfl) ?_
  refine aSims_c (i := 59) (s_bipush hC dX7_told_110 rfl rfl rfl) ?_
  refine aSims_c (i := 60) (s_icmp_le hC dX7_told_112 rfl rfl rfl) ?_
  refine aSims_c (i := 61) (s_iload_n hC dX7_told_115 rfl rfl) ?_
  refine aSims_c (i := 62) (s_bipush hC dX7_told_116 rfl rfl rfl) ?_
  refine aSims_c (i := 63) (s_icmp_ge hC dX7_told_118 rfl rfl rfl) ?_
  refine aSims_c (i := 64) (s_aload_n hC dX7_told_121 rfl rfl) ?_
  refine aSims_c (i := 65) (s_get hC dX7_told_122 rfl rfl w_853 rfl rfl inB7 (by decide)) ?_
  refine aSims_c (i := 66) (s_iload_n hC dX7_told_125 rfl rfl) ?_
  refine aSims_c (i := 67) (s_iload_n hC dX7_told_126 rfl rfl) ?_
  refine aSims_c (i := 68) (s_bipush hC dX7_told_127 rfl rfl rfl) ?_
  refine aSims_c (i := 69) (s_isub hC dX7_told_129 rfl rfl) ?_
  refine aSims_c (i := 70) (s_callS hC dX7_told_130 rfl rfl (hE 117 _ _ _ _ rfl) (hF _ (by decide)) w_1000 w_998 w_999 w_109 (by decide +kernel)) ?_
  refine aSims_c (i := 71) (s_iaload hC hX0 dX7_told_133 rfl rfl) ?_
  refine aSims_c (i := 72) (s_goto hC dX7_told_134 rfl rfl) ?_
  refine aSims_c (i := 73) (s_aload_n hC dX7_told_137 rfl rfl) ?_
  refine aSims_c (i := 74) (s_iload_n hC dX7_told_138 rfl rfl) ?_
  refine aSims_c (i := 75) (s_iload_n hC dX7_told_139 rfl rfl) ?_
  refine aSims_c (i := 76) (s_bipush hC dX7_told_140 rfl rfl rfl) ?_
  refine aSims_c (i := 77) (s_isub hC dX7_told_142 rfl rfl) ?_
  refine aSims_c (i := 78) (s_callV (n := 2) hC dX7_told_143 rfl rfl (hE 178 _ _ _ _ rfl) (hF _ (by decide)) w_1004 w_1001 w_1003 w_31 w_109 rfl (by decide +kernel)) ?_
  refine aSims_c (i := 79) (s_if_eq hC dX7_told_146 rfl rfl rfl) ?_
  refine aSims_c (i := 80) (s_iconst hC dX7_told_149 rfl rfl rfl) ?_
  refine aSims_c (i := 81) (s_goto hC dX7_told_150 rfl rfl) ?_
  refine aSims_c (i := 82) (s_iconst hC dX7_told_153 rfl rfl rfl) ?_
  refine aSims_c (i := 83) (s_iret hC dX7_told_154 rfl hr hlk nar_qI) ?_
  refine aSims_c (i := 84) (s_iload_n hC dX7_told_155 rfl rfl) ?_
  refine aSims_c (i := 85) (s_iconst hC dX7_told_156 rfl rfl rfl) ?_
  refine aSims_c (i := 86) (s_icmp_ne hC dX7_told_157 rfl rfl rfl) ?_
  refine aSims_c (i := 87) (s_aload_n hC dX7_told_160 rfl rfl) ?_
  refine aSims_c (i := 88) (s_get hC dX7_told_161 rfl rfl w_851 rfl rfl inB7 (by decide)) ?_
  refine aSims_c (i := 89) (s_iload_n hC dX7_told_164 rfl rfl) ?_
  refine aSims_c (i := 90) (s_iaload hC hX0 dX7_told_165 rfl rfl) ?_
  refine aSims_c (i := 91) (s_goto hC dX7_told_166 rfl rfl) ?_
  refine aSims_c (i := 92) (s_iload_n hC dX7_told_169 rfl rfl) ?_
  refine aSims_c (i := 93) (s_bipush hC dX7_told_170 rfl rfl rfl) ?_
  refine aSims_c (i := 94) (s_icmp_ne hC dX7_told_172 rfl rfl rfl) ?_
  refine aSims_c (i := 95) (s_aload_n hC dX7_told_175 rfl rfl) ?_
  refine aSims_c (i := 96) (s_iload_n hC dX7_told_176 rfl rfl) ?_
  refine aSims_c (i := 97) (s_callV (n := 1) hC dX7_told_177 rfl rfl (hE 179 _ _ _ _ rfl) (hF _ (by decide)) w_1213 w_1210 w_1212 w_81 w_109 rfl (by decide +kernel)) ?_
  refine aSims_c (i := 98) (s_goto hC dX7_told_180 rfl rfl) ?_
  refine aSims_c (i := 99) (s_aload_n hC dX7_told_183 rfl rfl) ?_
  refine aSims_c (i := 100) (s_iload_n hC dX7_told_184 rfl rfl) ?_
  refine aSims_c (i := 101) (s_callV (n := 1) hC dX7_told_185 rfl rfl (hE 179 _ _ _ _ rfl) (hF _ (by decide)) w_1213 w_1210 w_1212 w_81 w_109 rfl (by decide +kernel)) ?_
  refine aSims_c (i := 102) (s_bipush hC dX7_told_188 rfl rfl rfl) ?_
  refine aSims_c (i := 103) (s_icmp_ne hC dX7_told_190 rfl rfl rfl) ?_
  refine aSims_c (i := 104) (s_iconst hC dX7_told_193 rfl rfl rfl) ?_
  refine aSims_c (i := 105) (s_goto hC dX7_told_194 rfl rfl) ?_
  refine aSims_c (i := 106) (s_iconst hC dX7_told_197 rfl rfl rfl) ?_
  refine aSims_c (i := 107) (s_iret hC dX7_told_198 rfl hr hlk nar_qI) ?_
  exact aSims_n
set_option maxHeartbeats 4000000 in
set_option maxRecDepth 20000 in
theorem sm_X7_feed (hC : aC p s m args c cX7_feed 2 RX7 D cA ad bs n0 H0 X) (hF : ∀ ml, ml ≤ 41 → aFit R d ml) (hRm : 16 ≤ R.frames ∧ 1000 ≤ R.locals) (hE : aCalls l D cA ad bs X d E) (hr : meth.sig.returnType = (some .int)) (hlk : meth.locks = false) : aSims (fun f i => aSim p l e R s m args below meth c (aEnd below s args D cA ad bs n0 z0 rv hf) 2 D cA ad bs n0 z0 H0 (apc pc_X7_feed) rv hf E f i) (cd_X7_feed) 0 := by
  unfold cd_X7_feed
  refine aSims_c (i := 0) (s_iload_n hC dX7_feed_0 rfl rfl) ?_
  refine aSims_c (i := 1) (s_i2l hC dX7_feed_1 rfl rfl) ?_
  refine aSims_c (i := 2) (s_lconst hC dX7_feed_2 rfl rfl rfl) ?_
  refine aSims_c (i := 3) (s_ldc2 hC dX7_feed_3 w_1229 rfl rfl) ?_
  refine aSims_c (i := 4) (s_callS hC dX7_feed_6 rfl rfl (hE 111 _ _ _ _ rfl) (hF _ (by decide)) w_974 w_972 w_973 w_109 (by decide +kernel)) ?_
  refine aSims_c (i := 5) (s_if_ne hC dX7_feed_9 rfl rfl rfl) ?_
  refine aSims_c (i := 6) (s_bipush hC dX7_feed_12 rfl rfl rfl) ?_
  refine aSims_c (i := 7) (s_iret hC dX7_feed_14 rfl hr hlk nar_qI) ?_
  refine aSims_c (i := 8) (s_aload_n hC dX7_feed_15 rfl rfl) ?_
  refine aSims_c (i := 9) (s_get hC dX7_feed_16 rfl rfl w_848 rfl rfl inB7 (by decide)) ?_
  refine aSims_c (i := 10) (s_sipush hC dX7_feed_19 rfl rfl rfl) ?_
  refine aSims_c (i := 11) (s_icmp_ne hC dX7_feed_22 rfl rfl rfl) ?_
  refine aSims_c (i := 12) (s_bipush hC dX7_feed_25 rfl rfl rfl) ?_
  refine aSims_c (i := 13) (s_iret hC dX7_feed_27 rfl hr hlk nar_qI) ?_
  refine aSims_c (i := 14) (s_aload_n hC dX7_feed_28 rfl rfl) ?_
  refine aSims_c (i := 15) (s_get hC dX7_feed_29 rfl rfl w_847 rfl rfl inB7 (by decide)) ?_
  refine aSims_c (i := 16) (s_aload_n hC dX7_feed_32 rfl rfl) ?_
  refine aSims_c (i := 17) (s_get hC dX7_feed_33 rfl rfl w_848 rfl rfl inB7 (by decide)) ?_
  refine aSims_c (i := 18) (s_iload_n hC dX7_feed_36 rfl rfl) ?_
  refine aSims_c (i := 19) (s_iastore hC dX7_feed_37 rfl rfl) ?_
  refine aSims_c (i := 20) (s_aload_n hC dX7_feed_38 rfl rfl) ?_
  refine aSims_c (i := 21) (s_dup hC dX7_feed_39 rfl rfl) ?_
  refine aSims_c (i := 22) (s_get hC dX7_feed_40 rfl rfl w_848 rfl rfl inB7 (by decide)) ?_
  refine aSims_c (i := 23) (s_iconst hC dX7_feed_43 rfl rfl rfl) ?_
  refine aSims_c (i := 24) (s_iadd hC dX7_feed_44 rfl rfl) ?_
  refine aSims_c (i := 25) (s_put hC dX7_feed_45 rfl rfl w_848 rfl rfl inB7 tyX7_ok nmX7 (by decide) rfl) ?_
  refine aSims_c (i := 26) (s_aload_n hC dX7_feed_48 rfl rfl) ?_
  refine aSims_c (i := 27) (s_get hC dX7_feed_49 rfl rfl w_848 rfl rfl inB7 (by decide)) ?_
  refine aSims_c (i := 28) (s_iret hC dX7_feed_52 rfl hr hlk nar_qI) ?_
  exact aSims_n
set_option maxHeartbeats 4000000 in
set_option maxRecDepth 20000 in
theorem sm_X7_byteAt (hC : aC p s m args c cX7_byteAt 2 RX7 D cA ad bs n0 H0 X) (hF : ∀ ml, ml ≤ 41 → aFit R d ml) (hRm : 16 ≤ R.frames ∧ 1000 ≤ R.locals) (hE : aCalls l D cA ad bs X d E) (hr : meth.sig.returnType = (some .int)) (hlk : meth.locks = false) : aSims (fun f i => aSim p l e R s m args below meth c (aEnd below s args D cA ad bs n0 z0 rv hf) 2 D cA ad bs n0 z0 H0 (apc pc_X7_byteAt) rv hf E f i) (cd_X7_byteAt) 0 := by
  unfold cd_X7_byteAt
  refine aSims_c (i := 0) (s_iload_n hC dX7_byteAt_0 rfl rfl) ?_
  refine aSims_c (i := 1) (s_aload_n hC dX7_byteAt_1 rfl rfl) ?_
  refine aSims_c (i := 2) (s_get hC dX7_byteAt_2 rfl rfl w_862 rfl rfl inB7 (by decide)) ?_
  refine aSims_c (i := 3) (s_icmp_ge hC dX7_byteAt_5 rfl rfl rfl) ?_
  refine aSims_c (i := 4) (s_aload_n hC dX7_byteAt_8 rfl rfl) ?_
  refine aSims_c (i := 5) (s_get hC dX7_byteAt_9 rfl rfl w_843 rfl rfl inB7 (by decide)) ?_
  refine aSims_c (i := 6) (s_aload_n hC dX7_byteAt_12 rfl rfl) ?_
  refine aSims_c (i := 7) (s_get hC dX7_byteAt_13 rfl rfl w_861 rfl rfl inB7 (by decide)) ?_
  refine aSims_c (i := 8) (s_iload_n hC dX7_byteAt_16 rfl rfl) ?_
  refine aSims_c (i := 9) (s_iadd hC dX7_byteAt_17 rfl rfl) ?_
  refine aSims_c (i := 10) (s_iaload hC hX0 dX7_byteAt_18 rfl rfl) ?_
  refine aSims_c (i := 11) (s_goto hC dX7_byteAt_19 rfl rfl) ?_
  refine aSims_c (i := 12) (s_iconst hC dX7_byteAt_22 rfl rfl rfl) ?_
  refine aSims_c (i := 13) (s_iret hC dX7_byteAt_23 rfl hr hlk nar_qI) ?_
  exact aSims_n
set_option maxHeartbeats 4000000 in
set_option maxRecDepth 20000 in
theorem sm_X7_next_0 (hC : aC p s m args c cX7_next 3 RX7 D cA ad bs n0 H0 X) (hF : ∀ ml, ml ≤ 41 → aFit R d ml) (hRm : 16 ≤ R.frames ∧ 1000 ≤ R.locals) (hE : aCalls l D cA ad bs X d E) (hr : meth.sig.returnType = none) (hlk : meth.locks = false) : aSims (fun f i => aSim p l e R s m args below meth c (aEnd below s args D cA ad bs n0 z0 rv hf) 3 D cA ad bs n0 z0 H0 (apc pc_X7_next) rv hf E f i) (cd_X7_next_0) 0 := by
  unfold cd_X7_next_0
  refine aSims_c (i := 0) (s_aload_n hC dX7_next_0 rfl rfl) ?_
  refine aSims_c (i := 1) (s_aload_n hC dX7_next_1 rfl rfl) ?_
  refine aSims_c (i := 2) (s_get hC dX7_next_2 rfl rfl w_863 rfl rfl inB7 (by decide)) ?_
  refine aSims_c (i := 3) (s_callV (n := 1) hC dX7_next_5 rfl rfl (hE 125 _ _ _ _ rfl) (hF _ (by decide)) w_1028 w_1025 w_1027 w_37 w_109 rfl (by decide +kernel)) ?_
  refine aSims_c (i := 4) (s_bipush hC dX7_next_8 rfl rfl rfl) ?_
  refine aSims_c (i := 5) (s_icmp_eq hC dX7_next_10 rfl rfl rfl) ?_
  refine aSims_c (i := 6) (s_aload_n hC dX7_next_13 rfl rfl) ?_
  refine aSims_c (i := 7) (s_aload_n hC dX7_next_14 rfl rfl) ?_
  refine aSims_c (i := 8) (s_get hC dX7_next_15 rfl rfl w_863 rfl rfl inB7 (by decide)) ?_
  refine aSims_c (i := 9) (s_callV (n := 1) hC dX7_next_18 rfl rfl (hE 125 _ _ _ _ rfl) (hF _ (by decide)) w_1028 w_1025 w_1027 w_37 w_109 rfl (by decide +kernel)) ?_
  refine aSims_c (i := 10) (s_bipush hC dX7_next_21 rfl rfl rfl) ?_
  refine aSims_c (i := 11) (s_icmp_ne hC dX7_next_23 rfl rfl rfl) ?_
  refine aSims_c (i := 12) (s_aload_n hC dX7_next_26 rfl rfl) ?_
  refine aSims_c (i := 13) (s_dup hC dX7_next_27 rfl rfl) ?_
  refine aSims_c (i := 14) (s_get hC dX7_next_28 rfl rfl w_863 rfl rfl inB7 (by decide)) ?_
  refine aSims_c (i := 15) (s_iconst hC dX7_next_31 rfl rfl rfl) ?_
  refine aSims_c (i := 16) (s_iadd hC dX7_next_32 rfl rfl) ?_
  refine aSims_c (i := 17) (s_put hC dX7_next_33 rfl rfl w_863 rfl rfl inB7 tyX7_ok nmX7 (by decide) rfl) ?_
  refine aSims_c (i := 18) (s_goto hC dX7_next_36 rfl rfl) ?_
  refine aSims_c (i := 19) (s_aload_n hC dX7_next_39 rfl rfl) ?_
  refine aSims_c (i := 20) (s_aload_n hC dX7_next_40 rfl rfl) ?_
  refine aSims_c (i := 21) (s_get hC dX7_next_41 rfl rfl w_863 rfl rfl inB7 (by decide)) ?_
  refine aSims_c (i := 22) (s_put hC dX7_next_44 rfl rfl w_865 rfl rfl inB7 tyX7_ok nmX7 (by decide) rfl) ?_
  refine aSims_c (i := 23) (s_aload_n hC dX7_next_47 rfl rfl) ?_
  refine aSims_c (i := 24) (s_aload_n hC dX7_next_48 rfl rfl) ?_
  refine aSims_c (i := 25) (s_get hC dX7_next_49 rfl rfl w_863 rfl rfl inB7 (by decide)) ?_
  refine aSims_c (i := 26) (s_callV (n := 1) hC dX7_next_52 rfl rfl (hE 125 _ _ _ _ rfl) (hF _ (by decide)) w_1028 w_1025 w_1027 w_37 w_109 rfl (by decide +kernel)) ?_
  refine aSims_c (i := 27) (s_istore_n hC dX7_next_55 rfl rfl) ?_
  refine aSims_c (i := 28) (s_aload_n hC dX7_next_56 rfl rfl) ?_
  refine aSims_c (i := 29) (s_iconst hC dX7_next_57 rfl rfl rfl) ?_
  refine aSims_c (i := 30) (s_put hC dX7_next_58 rfl rfl w_864 rfl rfl inB7 tyX7_ok nmX7 (by decide) rfl) ?_
  refine aSims_c (i := 31) (s_iload_n hC dX7_next_61 rfl rfl) ?_
  refine aSims_c (i := 32) (s_if_ge hC dX7_next_62 rfl rfl rfl) ?_
  refine aSims_c (i := 33) (s_aload_n hC dX7_next_65 rfl rfl) ?_
  refine aSims_c (i := 34) (s_iconst hC dX7_next_66 rfl rfl rfl) ?_
  refine aSims_c (i := 35) (s_put hC dX7_next_67 rfl rfl w_864 rfl rfl inB7 tyX7_ok nmX7 (by decide) rfl) ?_
  refine aSims_c (i := 36) (s_aload_n hC dX7_next_70 rfl rfl) ?_
  refine aSims_c (i := 37) (s_aload_n hC dX7_next_71 rfl rfl) ?_
  refine aSims_c (i := 38) (s_get hC dX7_next_72 rfl rfl w_862 rfl rfl inB7 (by decide)) ?_
  refine aSims_c (i := 39) (s_put hC dX7_next_75 rfl rfl w_865 rfl rfl inB7 tyX7_ok nmX7 (by decide) rfl) ?_
  refine aSims_c (i := 40) (s_goto hC dX7_next_78 rfl rfl) ?_
  refine aSims_c (i := 41) (s_iload_n hC dX7_next_81 rfl rfl) ?_
  refine aSims_c (i := 42) (s_i2l hC dX7_next_82 rfl rfl) ?_
  refine aSims_c (i := 43) (s_ldc2 hC dX7_next_83 w_1029 rfl rfl) ?_
  refine aSims_c (i := 44) (s_ldc2 hC dX7_next_86 w_1030 rfl rfl) ?_
  refine aSims_c (i := 45) (s_callS hC dX7_next_89 rfl rfl (hE 111 _ _ _ _ rfl) (hF _ (by decide)) w_974 w_972 w_973 w_109 (by decide +kernel)) ?_
  refine aSims_c (i := 46) (s_if_eq hC dX7_next_92 rfl rfl rfl) ?_
  refine aSims_c (i := 47) (s_aload_n hC dX7_next_95 rfl rfl) ?_
  refine aSims_c (i := 48) (s_iconst hC dX7_next_96 rfl rfl rfl) ?_
  refine aSims_c (i := 49) (s_put hC dX7_next_97 rfl rfl w_864 rfl rfl inB7 tyX7_ok nmX7 (by decide) rfl) ?_
  refine aSims_c (i := 50) (s_aload_n hC dX7_next_100 rfl rfl) ?_
  refine aSims_c (i := 51) (s_aload_n hC dX7_next_101 rfl rfl) ?_
  refine aSims_c (i := 52) (s_get hC dX7_next_102 rfl rfl w_863 rfl rfl inB7 (by decide)) ?_
  refine aSims_c (i := 53) (s_callV (n := 1) hC dX7_next_105 rfl rfl (hE 125 _ _ _ _ rfl) (hF _ (by decide)) w_1028 w_1025 w_1027 w_37 w_109 rfl (by decide +kernel)) ?_
  refine aSims_c (i := 54) (s_i2l hC dX7_next_108 rfl rfl) ?_
  refine aSims_c (i := 55) (s_ldc2 hC dX7_next_109 w_1029 rfl rfl) ?_
  refine aSims_c (i := 56) (s_ldc2 hC dX7_next_112 w_1030 rfl rfl) ?_
  refine aSims_c (i := 57) (s_callS hC dX7_next_115 rfl rfl (hE 111 _ _ _ _ rfl) (hF _ (by decide)) w_974 w_972 w_973 w_109 (by decide +kernel)) ?_
  refine aSims_c (i := 58) (s_if_eq hC dX7_next_118 rfl rfl rfl) ?_
  refine aSims_c (i := 59) (s_aload_n hC dX7_next_121 rfl rfl) ?_
  refine aSims_c (i := 60) (s_dup hC dX7_next_122 rfl rfl) ?_
  refine aSims_c (i := 61) (s_get hC dX7_next_123 rfl rfl w_863 rfl rfl inB7 (by decide)) ?_
  refine aSims_c (i := 62) (s_iconst hC dX7_next_126 rfl rfl rfl) ?_
  refine aSims_c (i := 63) (s_iadd hC dX7_next_127 rfl rfl) ?_
  refine aSims_c (i := 64) (s_put hC dX7_next_128 rfl rfl w_863 rfl rfl inB7 tyX7_ok nmX7 (by decide) rfl) ?_
  refine aSims_c (i := 65) (s_goto hC dX7_next_131 rfl rfl) ?_
  refine aSims_c (i := 66) (s_iload_n hC dX7_next_134 rfl rfl) ?_
  refine aSims_c (i := 67) (s_i2l hC dX7_next_135 rfl rfl) ?_
  refine aSims_c (i := 68) (s_ldc2 hC dX7_next_136 w_1031 rfl rfl) ?_
  refine aSims_c (i := 69) (s_ldc2 hC dX7_next_139 w_1032 rfl rfl) ?_
  refine aSims_c (i := 70) (s_callS hC dX7_next_142 rfl rfl (hE 111 _ _ _ _ rfl) (hF _ (by decide)) w_974 w_972 w_973 w_109 (by decide +kernel)) ?_
  refine aSims_c (i := 71) (s_if_eq hC dX7_next_145 rfl rfl rfl) ?_
  refine aSims_c (i := 72) (s_aload_n hC dX7_next_148 rfl rfl) ?_
  refine aSims_c (i := 73) (s_iconst hC dX7_next_149 rfl rfl rfl) ?_
  refine aSims_c (i := 74) (s_put hC dX7_next_150 rfl rfl w_864 rfl rfl inB7 tyX7_ok nmX7 (by decide) rfl) ?_
  refine aSims_c (i := 75) (s_aload_n hC dX7_next_153 rfl rfl) ?_
  refine aSims_c (i := 76) (s_lconst hC dX7_next_154 rfl rfl rfl) ?_
  refine aSims_c (i := 77) (s_put hC dX7_next_155 rfl rfl w_866 rfl rfl inB7 tyX7_ok nmX7 (by decide) rfl) ?_
  refine aSims_c (i := 78) (s_iconst hC dX7_next_158 rfl rfl rfl) ?_
  refine aSims_c (i := 79) (s_istore_n hC dX7_next_159 rfl rfl) ?_
  refine aSims_c (i := 80) (s_aload_n hC dX7_next_160 rfl rfl) ?_
  refine aSims_c (i := 81) (s_aload_n hC dX7_next_161 rfl rfl) ?_
  refine aSims_c (i := 82) (s_get hC dX7_next_162 rfl rfl w_863 rfl rfl inB7 (by decide)) ?_
  refine aSims_c (i := 83) (s_callV (n := 1) hC dX7_next_165 rfl rfl (hE 125 _ _ _ _ rfl) (hF _ (by decide)) w_1028 w_1025 w_1027 w_37 w_109 rfl (by decide +kernel)) ?_
  refine aSims_c (i := 84) (s_i2l hC dX7_next_168 rfl rfl) ?_
  refine aSims_c (i := 85) (s_ldc2 hC dX7_next_169 w_1031 rfl rfl) ?_
  refine aSims_c (i := 86) (s_ldc2 hC dX7_next_172 w_1032 rfl rfl) ?_
  refine aSims_c (i := 87) (s_callS hC dX7_next_175 rfl rfl (hE 111 _ _ _ _ rfl) (hF _ (by decide)) w_974 w_972 w_973 w_109 (by decide +kernel)) ?_
  refine aSims_c (i := 88) (s_if_eq hC dX7_next_178 rfl rfl rfl) ?_
  refine aSims_c (i := 89) (s_aload_n hC dX7_next_181 rfl rfl) ?_
  refine aSims_c (i := 90) (s_iload_n hC dX7_next_182 rfl rfl) ?_
  refine aSims_c (i := 91) (s_iconst hC dX7_next_183 rfl rfl rfl) ?_
  refine aSims_c (i := 92) (s_icmp_ge hC dX7_next_184 rfl rfl rfl) ?_
  refine aSims_c (i := 93) (s_ldc2 hC dX7_next_187 w_975 rfl rfl) ?_
  refine aSims_c (i := 94) (s_aload_n hC dX7_next_190 rfl rfl) ?_
  refine aSims_c (i := 95) (s_get hC dX7_next_191 rfl rfl w_866 rfl rfl inB7 (by decide)) ?_
  refine aSims_c (i := 96) (s_lmul hC dX7_next_194 rfl rfl) ?_
  refine aSims_c (i := 97) (s_aload_n hC dX7_next_195 rfl rfl) ?_
  refine aSims_c (i := 98) (s_aload_n hC dX7_next_196 rfl rfl) ?_
  refine aSims_c (i := 99) (s_get hC dX7_next_197 rfl rfl w_863 rfl rfl inB7 (by decide)) ?_
  exact aSims_n
set_option maxHeartbeats 4000000 in
set_option maxRecDepth 20000 in
theorem sm_X7_next_1 (hC : aC p s m args c cX7_next 3 RX7 D cA ad bs n0 H0 X) (hF : ∀ ml, ml ≤ 41 → aFit R d ml) (hRm : 16 ≤ R.frames ∧ 1000 ≤ R.locals) (hE : aCalls l D cA ad bs X d E) (hr : meth.sig.returnType = none) (hlk : meth.locks = false) : aSims (fun f i => aSim p l e R s m args below meth c (aEnd below s args D cA ad bs n0 z0 rv hf) 3 D cA ad bs n0 z0 H0 (apc pc_X7_next) rv hf E f i) (cd_X7_next_1) 100 := by
  unfold cd_X7_next_1
  refine aSims_c (i := 100) (s_callV (n := 1) hC dX7_next_200 rfl rfl (hE 125 _ _ _ _ rfl) (hF _ (by decide)) w_1028 w_1025 w_1027 w_37 w_109 rfl (by decide +kernel)) ?_
  refine aSims_c (i := 101) (s_i2l hC dX7_next_203 rfl rfl) ?_
  refine aSims_c (i := 102) (s_ladd hC dX7_next_204 rfl rfl) ?_
  refine aSims_c (i := 103) (s_ldc2 hC dX7_next_205 w_1031 rfl rfl) ?_
  refine aSims_c (i := 104) (s_lsub hC dX7_next_208 rfl rfl) ?_
  refine aSims_c (i := 105) (s_goto hC dX7_next_209 rfl rfl) ?_
  refine aSims_c (i := 106) (s_aload_n hC dX7_next_212 rfl rfl) ?_
  refine aSims_c (i := 107) (s_get hC dX7_next_213 rfl rfl w_866 rfl rfl inB7 (by decide)) ?_
  refine aSims_c (i := 108) (s_put hC dX7_next_216 rfl rfl w_866 rfl rfl inB7 tyX7_ok nmX7 (by decide) rfl) ?_
  refine aSims_c (i := 109) (s_iinc hC dX7_next_219 rfl rfl) ?_
  refine aSims_c (i := 110) (s_aload_n hC dX7_next_222 rfl rfl) ?_
  refine aSims_c (i := 111) (s_dup hC dX7_next_223 rfl rfl) ?_
  refine aSims_c (i := 112) (s_get hC dX7_next_224 rfl rfl w_863 rfl rfl inB7 (by decide)) ?_
  refine aSims_c (i := 113) (s_iconst hC dX7_next_227 rfl rfl rfl) ?_
  refine aSims_c (i := 114) (s_iadd hC dX7_next_228 rfl rfl) ?_
  refine aSims_c (i := 115) (s_put hC dX7_next_229 rfl rfl w_863 rfl rfl inB7 tyX7_ok nmX7 (by decide) rfl) ?_
  refine aSims_c (i := 116) (s_goto hC dX7_next_232 rfl rfl) ?_
  refine aSims_c (i := 117) (s_aload_n hC dX7_next_235 rfl rfl) ?_
  refine aSims_c (i := 118) (s_iload_n hC dX7_next_236 rfl rfl) ?_
  refine aSims_c (i := 119) (s_iconst hC dX7_next_237 rfl rfl rfl) ?_
  refine aSims_c (i := 120) (s_icmp_le hC dX7_next_238 rfl rfl rfl) ?_
  refine aSims_c (i := 121) (s_iconst hC dX7_next_241 rfl rfl rfl) ?_
  refine aSims_c (i := 122) (s_goto hC dX7_next_242 rfl rfl) ?_
  refine aSims_c (i := 123) (s_iconst hC dX7_next_245 rfl rfl rfl) ?_
  refine aSims_c (i := 124) (s_put hC dX7_next_246 rfl rfl w_864 rfl rfl inB7 tyX7_ok nmX7 (by decide) rfl) ?_
  refine aSims_c (i := 125) (s_goto hC dX7_next_249 rfl rfl) ?_
  refine aSims_c (i := 126) (s_iload_n hC dX7_next_252 rfl rfl) ?_
  refine aSims_c (i := 127) (s_bipush hC dX7_next_253 rfl rfl rfl) ?_
  refine aSims_c (i := 128) (s_icmp_eq hC dX7_next_255 rfl rfl rfl) ?_
  refine aSims_c (i := 129) (s_iload_n hC dX7_next_258 rfl rfl) ?_
  refine aSims_c (i := 130) (s_bipush hC dX7_next_259 rfl rfl rfl) ?_
  refine aSims_c (i := 131) (s_icmp_eq hC dX7_next_261 rfl rfl rfl) ?_
  refine aSims_c (i := 132) (s_iload_n hC dX7_next_264 rfl rfl) ?_
  refine aSims_c (i := 133) (s_bipush hC dX7_next_265 rfl rfl rfl) ?_
  refine aSims_c (i := 134) (s_icmp_eq hC dX7_next_267 rfl rfl rfl) ?_
  refine aSims_c (i := 135) (s_iload_n hC dX7_next_270 rfl rfl) ?_
  refine aSims_c (i := 136) (s_bipush hC dX7_next_271 rfl rfl rfl) ?_
  refine aSims_c (i := 137) (s_icmp_eq hC dX7_next_273 rfl rfl rfl) ?_
  refine aSims_c (i := 138) (s_iload_n hC dX7_next_276 rfl rfl) ?_
  refine aSims_c (i := 139) (s_bipush hC dX7_next_277 rfl rfl rfl) ?_
  refine aSims_c (i := 140) (s_icmp_eq hC dX7_next_279 rfl rfl rfl) ?_
  refine aSims_c (i := 141) (s_iload_n hC dX7_next_282 rfl rfl) ?_
  refine aSims_c (i := 142) (s_bipush hC dX7_next_283 rfl rfl rfl) ?_
  refine aSims_c (i := 143) (s_icmp_eq hC dX7_next_285 rfl rfl rfl) ?_
  refine aSims_c (i := 144) (s_iload_n hC dX7_next_288 rfl rfl) ?_
  refine aSims_c (i := 145) (s_bipush hC dX7_next_289 rfl rfl rfl) ?_
  refine aSims_c (i := 146) (s_icmp_eq hC dX7_next_291 rfl rfl rfl) ?_
  refine aSims_c (i := 147) (s_iload_n hC dX7_next_294 rfl rfl) ?_
  refine aSims_c (i := 148) (s_bipush hC dX7_next_295 rfl rfl rfl) ?_
  refine aSims_c (i := 149) (s_icmp_ne hC dX7_next_297 rfl rfl rfl) ?_
  refine aSims_c (i := 150) (s_aload_n hC dX7_next_300 rfl rfl) ?_
  refine aSims_c (i := 151) (s_iconst hC dX7_next_301 rfl rfl rfl) ?_
  refine aSims_c (i := 152) (s_put hC dX7_next_302 rfl rfl w_864 rfl rfl inB7 tyX7_ok nmX7 (by decide) rfl) ?_
  refine aSims_c (i := 153) (s_aload_n hC dX7_next_305 rfl rfl) ?_
  refine aSims_c (i := 154) (s_iload_n hC dX7_next_306 rfl rfl) ?_
  refine aSims_c (i := 155) (s_i2l hC dX7_next_307 rfl rfl) ?_
  refine aSims_c (i := 156) (s_put hC dX7_next_308 rfl rfl w_866 rfl rfl inB7 tyX7_ok nmX7 (by decide) rfl) ?_
  refine aSims_c (i := 157) (s_aload_n hC dX7_next_311 rfl rfl) ?_
  refine aSims_c (i := 158) (s_dup hC dX7_next_312 rfl rfl) ?_
  refine aSims_c (i := 159) (s_get hC dX7_next_313 rfl rfl w_863 rfl rfl inB7 (by decide)) ?_
  refine aSims_c (i := 160) (s_iconst hC dX7_next_316 rfl rfl rfl) ?_
  refine aSims_c (i := 161) (s_iadd hC dX7_next_317 rfl rfl) ?_
  refine aSims_c (i := 162) (s_put hC dX7_next_318 rfl rfl w_863 rfl rfl inB7 tyX7_ok nmX7 (by decide) rfl) ?_
  refine aSims_c (i := 163) (s_vret hC dX7_next_321 rfl hr hlk) ?_
  exact aSims_n
theorem sm_X7_next (hC : aC p s m args c cX7_next 3 RX7 D cA ad bs n0 H0 X) (hF : ∀ ml, ml ≤ 41 → aFit R d ml) (hRm : 16 ≤ R.frames ∧ 1000 ≤ R.locals) (hE : aCalls l D cA ad bs X d E) (hr : meth.sig.returnType = none) (hlk : meth.locks = false) : aSims (fun f i => aSim p l e R s m args below meth c (aEnd below s args D cA ad bs n0 z0 rv hf) 3 D cA ad bs n0 z0 H0 (apc pc_X7_next) rv hf E f i) cd_X7_next 0 := aSims_a (sm_X7_next_0 hC hF hRm hE hr hlk) (sm_X7_next_1 hC hF hRm hE hr hlk)
set_option maxHeartbeats 4000000 in
set_option maxRecDepth 20000 in
theorem sm_X7_fail (hC : aC p s m args c cX7_fail 1 RX7 D cA ad bs n0 H0 X) (hF : ∀ ml, ml ≤ 41 → aFit R d ml) (hRm : 16 ≤ R.frames ∧ 1000 ≤ R.locals) (hE : aCalls l D cA ad bs X d E) (hr : meth.sig.returnType = none) (hlk : meth.locks = false) : aSims (fun f i => aSim p l e R s m args below meth c (aEnd below s args D cA ad bs n0 z0 rv hf) 1 D cA ad bs n0 z0 H0 (apc pc_X7_fail) rv hf E f i) (cd_X7_fail) 0 := by
  unfold cd_X7_fail
  refine aSims_c (i := 0) (s_aload_n hC dX7_fail_0 rfl rfl) ?_
  refine aSims_c (i := 1) (s_get hC dX7_fail_1 rfl rfl w_868 rfl rfl inB7 (by decide)) ?_
  refine aSims_c (i := 2) (s_if_ne hC dX7_fail_4 rfl rfl rfl) ?_
  refine aSims_c (i := 3) (s_aload_n hC dX7_fail_7 rfl rfl) ?_
  refine aSims_c (i := 4) (s_iconst hC dX7_fail_8 rfl rfl rfl) ?_
  refine aSims_c (i := 5) (s_put hC dX7_fail_9 rfl rfl w_868 rfl rfl inB7 tyX7_ok nmX7 (by decide) rfl) ?_
  refine aSims_c (i := 6) (s_aload_n hC dX7_fail_12 rfl rfl) ?_
  refine aSims_c (i := 7) (s_aload_n hC dX7_fail_13 rfl rfl) ?_
  refine aSims_c (i := 8) (s_get hC dX7_fail_14 rfl rfl w_865 rfl rfl inB7 (by decide)) ?_
  refine aSims_c (i := 9) (s_put hC dX7_fail_17 rfl rfl w_869 rfl rfl inB7 tyX7_ok nmX7 (by decide) rfl) ?_
  refine aSims_c (i := 10) (s_vret hC dX7_fail_20 rfl hr hlk) ?_
  exact aSims_n
set_option maxHeartbeats 4000000 in
set_option maxRecDepth 20000 in
theorem sm_X7_isLetter (hC : aC p s m args c cX7_isLetter 3 RX7 D cA ad bs n0 H0 X) (hF : ∀ ml, ml ≤ 41 → aFit R d ml) (hRm : 16 ≤ R.frames ∧ 1000 ≤ R.locals) (hE : aCalls l D cA ad bs X d E) (hr : meth.sig.returnType = (some .boolean)) (hlk : meth.locks = false) : aSims (fun f i => aSim p l e R s m args below meth c (aEnd below s args D cA ad bs n0 z0 rv hf) 3 D cA ad bs n0 z0 H0 (apc pc_X7_isLetter) rv hf E f i) (cd_X7_isLetter) 0 := by
  unfold cd_X7_isLetter
  refine aSims_c (i := 0) (s_aload_n hC dX7_isLetter_0 rfl rfl) ?_
  refine aSims_c (i := 1) (s_get hC dX7_isLetter_1 rfl rfl w_865 rfl rfl inB7 (by decide)) ?_
  refine aSims_c (i := 2) (s_iload_n hC dX7_isLetter_4 rfl rfl) ?_
  refine aSims_c (i := 3) (s_iadd hC dX7_isLetter_5 rfl rfl) ?_
  refine aSims_c (i := 4) (s_aload_n hC dX7_isLetter_6 rfl rfl) ?_
  refine aSims_c (i := 5) (s_get hC dX7_isLetter_7 rfl rfl w_863 rfl rfl inB7 (by decide)) ?_
  refine aSims_c (i := 6) (s_icmp_ge hC dX7_isLetter_10 rfl rfl rfl) ?_
  refine aSims_c (i := 7) (s_aload_n hC dX7_isLetter_13 rfl rfl) ?_
  refine aSims_c (i := 8) (s_aload_n hC dX7_isLetter_14 rfl rfl) ?_
  refine aSims_c (i := 9) (s_get hC dX7_isLetter_15 rfl rfl w_865 rfl rfl inB7 (by decide)) ?_
  refine aSims_c (i := 10) (s_iload_n hC dX7_isLetter_18 rfl rfl) ?_
  refine aSims_c (i := 11) (s_iadd hC dX7_isLetter_19 rfl rfl) ?_
  refine aSims_c (i := 12) (s_callV (n := 1) hC dX7_isLetter_20 rfl rfl (hE 125 _ _ _ _ rfl) (hF _ (by decide)) w_1028 w_1025 w_1027 w_37 w_109 rfl (by decide +kernel)) ?_
  refine aSims_c (i := 13) (s_iload_n hC dX7_isLetter_23 rfl rfl) ?_
  refine aSims_c (i := 14) (s_icmp_ne hC dX7_isLetter_24 rfl rfl rfl) ?_
  refine aSims_c (i := 15) (s_iconst hC dX7_isLetter_27 rfl rfl rfl) ?_
  refine aSims_c (i := 16) (s_goto hC dX7_isLetter_28 rfl rfl) ?_
  refine aSims_c (i := 17) (s_iconst hC dX7_isLetter_31 rfl rfl rfl) ?_
  refine aSims_c (i := 18) (s_goto hC dX7_isLetter_32 rfl rfl) ?_
  refine aSims_c (i := 19) (s_iload_n hC dX7_isLetter_35 rfl rfl) ?_
  refine aSims_c (i := 20) (s_if_ne hC dX7_isLetter_36 rfl rfl rfl) ?_
  refine aSims_c (i := 21) (s_iconst hC dX7_isLetter_39 rfl rfl rfl) ?_
  refine aSims_c (i := 22) (s_goto hC dX7_isLetter_40 rfl rfl) ?_
  refine aSims_c (i := 23) (s_iconst hC dX7_isLetter_43 rfl rfl rfl) ?_
  refine aSims_c (i := 24) (s_iret hC dX7_isLetter_44 rfl hr hlk nar_qZ) ?_
  exact aSims_n
set_option maxHeartbeats 4000000 in
set_option maxRecDepth 20000 in
theorem sm_X7_isWord (hC : aC p s m args c cX7_isWord 9 RX7 D cA ad bs n0 H0 X) (hF : ∀ ml, ml ≤ 41 → aFit R d ml) (hRm : 16 ≤ R.frames ∧ 1000 ≤ R.locals) (hE : aCalls l D cA ad bs X d E) (hr : meth.sig.returnType = (some .boolean)) (hlk : meth.locks = false) : aSims (fun f i => aSim p l e R s m args below meth c (aEnd below s args D cA ad bs n0 z0 rv hf) 9 D cA ad bs n0 z0 H0 (apc pc_X7_isWord) rv hf E f i) (cd_X7_isWord) 0 := by
  unfold cd_X7_isWord
  refine aSims_c (i := 0) (s_aload_n hC dX7_isWord_0 rfl rfl) ?_
  refine aSims_c (i := 1) (s_get hC dX7_isWord_1 rfl rfl w_868 rfl rfl inB7 (by decide)) ?_
  refine aSims_c (i := 2) (s_if_ne hC dX7_isWord_4 rfl rfl rfl) ?_
  refine aSims_c (i := 3) (s_aload_n hC dX7_isWord_7 rfl rfl) ?_
  refine aSims_c (i := 4) (s_get hC dX7_isWord_8 rfl rfl w_864 rfl rfl inB7 (by decide)) ?_
  refine aSims_c (i := 5) (s_iconst hC dX7_isWord_11 rfl rfl rfl) ?_
  refine aSims_c (i := 6) (s_icmp_ne hC dX7_isWord_12 rfl rfl rfl) ?_
  refine aSims_c (i := 7) (s_aload_n hC dX7_isWord_15 rfl rfl) ?_
  refine aSims_c (i := 8) (s_get hC dX7_isWord_16 rfl rfl w_863 rfl rfl inB7 (by decide)) ?_
  refine aSims_c (i := 9) (s_aload_n hC dX7_isWord_19 rfl rfl) ?_
  refine aSims_c (i := 10) (s_get hC dX7_isWord_20 rfl rfl w_865 rfl rfl inB7 (by decide)) ?_
  refine aSims_c (i := 11) (s_bipush hC dX7_isWord_23 rfl rfl rfl) ?_
  refine aSims_c (i := 12) (s_iadd hC dX7_isWord_25 rfl rfl) ?_
  refine aSims_c (i := 13) (s_icmp_gt hC dX7_isWord_26 rfl rfl rfl) ?_
  refine aSims_c (i := 14) (s_aload_n hC dX7_isWord_29 rfl rfl) ?_
  refine aSims_c (i := 15) (s_iconst hC dX7_isWord_30 rfl rfl rfl) ?_
  refine aSims_c (i := 16) (s_iload_n hC dX7_isWord_31 rfl rfl) ?_
  refine aSims_c (i := 17) (s_callV (n := 2) hC dX7_isWord_32 rfl rfl (hE 128 _ _ _ _ rfl) (hF _ (by decide)) w_1040 w_1037 w_1039 w_39 w_109 rfl (by decide +kernel)) ?_
  refine aSims_c (i := 18) (s_if_eq hC dX7_isWord_35 rfl rfl rfl) ?_
  refine aSims_c (i := 19) (s_aload_n hC dX7_isWord_38 rfl rfl) ?_
  refine aSims_c (i := 20) (s_iconst hC dX7_isWord_39 rfl rfl rfl) ?_
  refine aSims_c (i := 21) (s_iload_n hC dX7_isWord_40 rfl rfl) ?_
  refine aSims_c (i := 22) (s_callV (n := 2) hC dX7_isWord_41 rfl rfl (hE 128 _ _ _ _ rfl) (hF _ (by decide)) w_1040 w_1037 w_1039 w_39 w_109 rfl (by decide +kernel)) ?_
  refine aSims_c (i := 23) (s_if_eq hC dX7_isWord_44 rfl rfl rfl) ?_
  refine aSims_c (i := 24) (s_aload_n hC dX7_isWord_47 rfl rfl) ?_
  refine aSims_c (i := 25) (s_iconst hC dX7_isWord_48 rfl rfl rfl) ?_
  refine aSims_c (i := 26) (s_iload_n hC dX7_isWord_49 rfl rfl) ?_
  refine aSims_c (i := 27) (s_callV (n := 2) hC dX7_isWord_50 rfl rfl (hE 128 _ _ _ _ rfl) (hF _ (by decide)) w_1040 w_1037 w_1039 w_39 w_109 rfl (by decide +kernel)) ?_
  refine aSims_c (i := 28) (s_if_eq hC dX7_isWord_53 rfl rfl rfl) ?_
  refine aSims_c (i := 29) (s_aload_n hC dX7_isWord_56 rfl rfl) ?_
  refine aSims_c (i := 30) (s_iconst hC dX7_isWord_57 rfl rfl rfl) ?_
  refine aSims_c (i := 31) (s_iload hC dX7_isWord_58 rfl rfl) ?_
  refine aSims_c (i := 32) (s_callV (n := 2) hC dX7_isWord_60 rfl rfl (hE 128 _ _ _ _ rfl) (hF _ (by decide)) w_1040 w_1037 w_1039 w_39 w_109 rfl (by decide +kernel)) ?_
  refine aSims_c (i := 33) (s_if_eq hC dX7_isWord_63 rfl rfl rfl) ?_
  refine aSims_c (i := 34) (s_aload_n hC dX7_isWord_66 rfl rfl) ?_
  refine aSims_c (i := 35) (s_iconst hC dX7_isWord_67 rfl rfl rfl) ?_
  refine aSims_c (i := 36) (s_iload hC dX7_isWord_68 rfl rfl) ?_
  refine aSims_c (i := 37) (s_callV (n := 2) hC dX7_isWord_70 rfl rfl (hE 128 _ _ _ _ rfl) (hF _ (by decide)) w_1040 w_1037 w_1039 w_39 w_109 rfl (by decide +kernel)) ?_
  refine aSims_c (i := 38) (s_if_eq hC dX7_isWord_73 rfl rfl rfl) ?_
  refine aSims_c (i := 39) (s_aload_n hC dX7_isWord_76 rfl rfl) ?_
  refine aSims_c (i := 40) (s_iconst hC dX7_isWord_77 rfl rfl rfl) ?_
  refine aSims_c (i := 41) (s_iload hC dX7_isWord_78 rfl rfl) ?_
  refine aSims_c (i := 42) (s_callV (n := 2) hC dX7_isWord_80 rfl rfl (hE 128 _ _ _ _ rfl) (hF _ (by decide)) w_1040 w_1037 w_1039 w_39 w_109 rfl (by decide +kernel)) ?_
  refine aSims_c (i := 43) (s_if_eq hC dX7_isWord_83 rfl rfl rfl) ?_
  refine aSims_c (i := 44) (s_aload_n hC dX7_isWord_86 rfl rfl) ?_
  refine aSims_c (i := 45) (s_bipush hC dX7_isWord_87 rfl rfl rfl) ?_
  refine aSims_c (i := 46) (s_iload hC dX7_isWord_89 rfl rfl) ?_
  refine aSims_c (i := 47) (s_callV (n := 2) hC dX7_isWord_91 rfl rfl (hE 128 _ _ _ _ rfl) (hF _ (by decide)) w_1040 w_1037 w_1039 w_39 w_109 rfl (by decide +kernel)) ?_
  refine aSims_c (i := 48) (s_if_eq hC dX7_isWord_94 rfl rfl rfl) ?_
  refine aSims_c (i := 49) (s_aload_n hC dX7_isWord_97 rfl rfl) ?_
  refine aSims_c (i := 50) (s_bipush hC dX7_isWord_98 rfl rfl rfl) ?_
  refine aSims_c (i := 51) (s_iload hC dX7_isWord_100 rfl rfl) ?_
  refine aSims_c (i := 52) (s_callV (n := 2) hC dX7_isWord_102 rfl rfl (hE 128 _ _ _ _ rfl) (hF _ (by decide)) w_1040 w_1037 w_1039 w_39 w_109 rfl (by decide +kernel)) ?_
  refine aSims_c (i := 53) (s_if_eq hC dX7_isWord_105 rfl rfl rfl) ?_
  refine aSims_c (i := 54) (s_iconst hC dX7_isWord_108 rfl rfl rfl) ?_
  refine aSims_c (i := 55) (s_goto hC dX7_isWord_109 rfl rfl) ?_
  refine aSims_c (i := 56) (s_iconst hC dX7_isWord_112 rfl rfl rfl) ?_
  refine aSims_c (i := 57) (s_iret hC dX7_isWord_113 rfl hr hlk nar_qZ) ?_
  exact aSims_n
set_option maxHeartbeats 4000000 in
set_option maxRecDepth 20000 in
theorem sm_X7_isSign (hC : aC p s m args c cX7_isSign 2 RX7 D cA ad bs n0 H0 X) (hF : ∀ ml, ml ≤ 41 → aFit R d ml) (hRm : 16 ≤ R.frames ∧ 1000 ≤ R.locals) (hE : aCalls l D cA ad bs X d E) (hr : meth.sig.returnType = (some .boolean)) (hlk : meth.locks = false) : aSims (fun f i => aSim p l e R s m args below meth c (aEnd below s args D cA ad bs n0 z0 rv hf) 2 D cA ad bs n0 z0 H0 (apc pc_X7_isSign) rv hf E f i) (cd_X7_isSign) 0 := by
  unfold cd_X7_isSign
  refine aSims_c (i := 0) (s_aload_n hC dX7_isSign_0 rfl rfl) ?_
  refine aSims_c (i := 1) (s_get hC dX7_isSign_1 rfl rfl w_868 rfl rfl inB7 (by decide)) ?_
  refine aSims_c (i := 2) (s_if_ne hC dX7_isSign_4 rfl rfl rfl) ?_
  refine aSims_c (i := 3) (s_aload_n hC dX7_isSign_7 rfl rfl) ?_
  refine aSims_c (i := 4) (s_get hC dX7_isSign_8 rfl rfl w_864 rfl rfl inB7 (by decide)) ?_
  refine aSims_c (i := 5) (s_iconst hC dX7_isSign_11 rfl rfl rfl) ?_
  refine aSims_c (i := 6) (s_icmp_ne hC dX7_isSign_12 rfl rfl rfl) ?_
  refine aSims_c (i := 7) (s_aload_n hC dX7_isSign_15 rfl rfl) ?_
  refine aSims_c (i := 8) (s_get hC dX7_isSign_16 rfl rfl w_866 rfl rfl inB7 (by decide)) ?_
  refine aSims_c (i := 9) (s_iload_n hC dX7_isSign_19 rfl rfl) ?_
  refine aSims_c (i := 10) (s_i2l hC dX7_isSign_20 rfl rfl) ?_
  refine aSims_c (i := 11) (s_lcmp hC dX7_isSign_21 rfl rfl) ?_
  refine aSims_c (i := 12) (s_if_ne hC dX7_isSign_22 rfl rfl rfl) ?_
  refine aSims_c (i := 13) (s_iconst hC dX7_isSign_25 rfl rfl rfl) ?_
  refine aSims_c (i := 14) (s_goto hC dX7_isSign_26 rfl rfl) ?_
  refine aSims_c (i := 15) (s_iconst hC dX7_isSign_29 rfl rfl rfl) ?_
  refine aSims_c (i := 16) (s_iret hC dX7_isSign_30 rfl hr hlk nar_qZ) ?_
  exact aSims_n
set_option maxHeartbeats 4000000 in
set_option maxRecDepth 20000 in
theorem sm_X7_opens (hC : aC p s m args c cX7_opens 1 RX7 D cA ad bs n0 H0 X) (hF : ∀ ml, ml ≤ 41 → aFit R d ml) (hRm : 16 ≤ R.frames ∧ 1000 ≤ R.locals) (hE : aCalls l D cA ad bs X d E) (hr : meth.sig.returnType = (some .boolean)) (hlk : meth.locks = false) : aSims (fun f i => aSim p l e R s m args below meth c (aEnd below s args D cA ad bs n0 z0 rv hf) 1 D cA ad bs n0 z0 H0 (apc pc_X7_opens) rv hf E f i) (cd_X7_opens) 0 := by
  unfold cd_X7_opens
  refine aSims_c (i := 0) (s_aload_n hC dX7_opens_0 rfl rfl) ?_
  refine aSims_c (i := 1) (s_get hC dX7_opens_1 rfl rfl w_867 rfl rfl inB7 (by decide)) ?_
  refine aSims_c (i := 2) (s_iconst hC dX7_opens_4 rfl rfl rfl) ?_
  refine aSims_c (i := 3) (s_icmp_ne hC dX7_opens_5 rfl rfl rfl) ?_
  refine aSims_c (i := 4) (s_aload_n hC dX7_opens_8 rfl rfl) ?_
  refine aSims_c (i := 5) (s_callV (n := 0) hC dX7_opens_9 rfl rfl (hE 127 _ _ _ _ rfl) (hF _ (by decide)) w_1048 w_1045 w_1047 w_41 w_109 rfl (by decide +kernel)) ?_
  refine aSims_c (i := 6) (s_iconst hC dX7_opens_12 rfl rfl rfl) ?_
  refine aSims_c (i := 7) (s_iret hC dX7_opens_13 rfl hr hlk nar_qZ) ?_
  refine aSims_c (i := 8) (s_aload_n hC dX7_opens_14 rfl rfl) ?_
  refine aSims_c (i := 9) (s_dup hC dX7_opens_15 rfl rfl) ?_
  refine aSims_c (i := 10) (s_get hC dX7_opens_16 rfl rfl w_867 rfl rfl inB7 (by decide)) ?_
  refine aSims_c (i := 11) (s_iconst hC dX7_opens_19 rfl rfl rfl) ?_
  refine aSims_c (i := 12) (s_iadd hC dX7_opens_20 rfl rfl) ?_
  refine aSims_c (i := 13) (s_put hC dX7_opens_21 rfl rfl w_867 rfl rfl inB7 tyX7_ok nmX7 (by decide) rfl) ?_
  refine aSims_c (i := 14) (s_aload_n hC dX7_opens_24 rfl rfl) ?_
  refine aSims_c (i := 15) (s_callV (n := 0) hC dX7_opens_25 rfl rfl (hE 126 _ _ _ _ rfl) (hF _ (by decide)) w_1024 w_1021 w_1023 w_36 w_109 rfl (by decide +kernel)) ?_
  refine aSims_c (i := 16) (s_iconst hC dX7_opens_28 rfl rfl rfl) ?_
  refine aSims_c (i := 17) (s_iret hC dX7_opens_29 rfl hr hlk nar_qZ) ?_
  exact aSims_n
end SIM
