theorem dX6_init_0 : decode cX6_init 0 = .ok (.aload_n 0, 1) := by decide +kernel
theorem dX6_init_1 : decode cX6_init 1 = .ok (.invokespecial 1, 3) := by decide +kernel
theorem dX6_init_4 : decode cX6_init 4 = .ok (.aload_n 0, 1) := by decide +kernel
theorem dX6_init_5 : decode cX6_init 5 = .ok (.iconst 4, 1) := by decide +kernel
theorem dX6_init_6 : decode cX6_init 6 = .ok (.newarray .int, 2) := by decide +kernel
theorem dX6_init_8 : decode cX6_init 8 = .ok (.dup, 1) := by decide +kernel
theorem dX6_init_9 : decode cX6_init 9 = .ok (.iconst 0, 1) := by decide +kernel
theorem dX6_init_10 : decode cX6_init 10 = .ok (.iconst 2, 1) := by decide +kernel
theorem dX6_init_11 : decode cX6_init 11 = .ok (.iastore, 1) := by decide +kernel
theorem dX6_init_12 : decode cX6_init 12 = .ok (.dup, 1) := by decide +kernel
theorem dX6_init_13 : decode cX6_init 13 = .ok (.iconst 1, 1) := by decide +kernel
theorem dX6_init_14 : decode cX6_init 14 = .ok (.iconst 2, 1) := by decide +kernel
theorem dX6_init_15 : decode cX6_init 15 = .ok (.iastore, 1) := by decide +kernel
theorem dX6_init_16 : decode cX6_init 16 = .ok (.dup, 1) := by decide +kernel
theorem dX6_init_17 : decode cX6_init 17 = .ok (.iconst 2, 1) := by decide +kernel
theorem dX6_init_18 : decode cX6_init 18 = .ok (.iconst 2, 1) := by decide +kernel
theorem dX6_init_19 : decode cX6_init 19 = .ok (.iastore, 1) := by decide +kernel
theorem dX6_init_20 : decode cX6_init 20 = .ok (.dup, 1) := by decide +kernel
theorem dX6_init_21 : decode cX6_init 21 = .ok (.iconst 3, 1) := by decide +kernel
theorem dX6_init_22 : decode cX6_init 22 = .ok (.iconst 2, 1) := by decide +kernel
theorem dX6_init_23 : decode cX6_init 23 = .ok (.iastore, 1) := by decide +kernel
theorem dX6_init_24 : decode cX6_init 24 = .ok (.putfield 7, 3) := by decide +kernel
theorem dX6_init_27 : decode cX6_init 27 = .ok (.aload_n 0, 1) := by decide +kernel
theorem dX6_init_28 : decode cX6_init 28 = .ok (.iconst 4, 1) := by decide +kernel
theorem dX6_init_29 : decode cX6_init 29 = .ok (.newarray .int, 2) := by decide +kernel
theorem dX6_init_31 : decode cX6_init 31 = .ok (.dup, 1) := by decide +kernel
theorem dX6_init_32 : decode cX6_init 32 = .ok (.iconst 0, 1) := by decide +kernel
theorem dX6_init_33 : decode cX6_init 33 = .ok (.iconst 1, 1) := by decide +kernel
theorem dX6_init_34 : decode cX6_init 34 = .ok (.iastore, 1) := by decide +kernel
theorem dX6_init_35 : decode cX6_init 35 = .ok (.dup, 1) := by decide +kernel
theorem dX6_init_36 : decode cX6_init 36 = .ok (.iconst 1, 1) := by decide +kernel
theorem dX6_init_37 : decode cX6_init 37 = .ok (.iconst 1, 1) := by decide +kernel
theorem dX6_init_38 : decode cX6_init 38 = .ok (.iastore, 1) := by decide +kernel
theorem dX6_init_39 : decode cX6_init 39 = .ok (.dup, 1) := by decide +kernel
theorem dX6_init_40 : decode cX6_init 40 = .ok (.iconst 2, 1) := by decide +kernel
theorem dX6_init_41 : decode cX6_init 41 = .ok (.iconst 1, 1) := by decide +kernel
theorem dX6_init_42 : decode cX6_init 42 = .ok (.iastore, 1) := by decide +kernel
theorem dX6_init_43 : decode cX6_init 43 = .ok (.dup, 1) := by decide +kernel
theorem dX6_init_44 : decode cX6_init 44 = .ok (.iconst 3, 1) := by decide +kernel
theorem dX6_init_45 : decode cX6_init 45 = .ok (.iconst 1, 1) := by decide +kernel
theorem dX6_init_46 : decode cX6_init 46 = .ok (.iastore, 1) := by decide +kernel
theorem dX6_init_47 : decode cX6_init 47 = .ok (.putfield 13, 3) := by decide +kernel
theorem dX6_init_50 : decode cX6_init 50 = .ok (.aload_n 0, 1) := by decide +kernel
theorem dX6_init_51 : decode cX6_init 51 = .ok (.bipush 64, 2) := by decide +kernel
theorem dX6_init_53 : decode cX6_init 53 = .ok (.newarray .int, 2) := by decide +kernel
theorem dX6_init_55 : decode cX6_init 55 = .ok (.putfield 16, 3) := by decide +kernel
theorem dX6_init_58 : decode cX6_init 58 = .ok (.aload_n 0, 1) := by decide +kernel
theorem dX6_init_59 : decode cX6_init 59 = .ok (.bipush 64, 2) := by decide +kernel
theorem dX6_init_61 : decode cX6_init 61 = .ok (.newarray .int, 2) := by decide +kernel
theorem dX6_init_63 : decode cX6_init 63 = .ok (.putfield 19, 3) := by decide +kernel
theorem dX6_init_66 : decode cX6_init 66 = .ok (.aload_n 0, 1) := by decide +kernel
theorem dX6_init_67 : decode cX6_init 67 = .ok (.bipush 64, 2) := by decide +kernel
theorem dX6_init_69 : decode cX6_init 69 = .ok (.newarray .int, 2) := by decide +kernel
theorem dX6_init_71 : decode cX6_init 71 = .ok (.putfield 22, 3) := by decide +kernel
theorem dX6_init_74 : decode cX6_init 74 = .ok (.aload_n 0, 1) := by decide +kernel
theorem dX6_init_75 : decode cX6_init 75 = .ok (.bipush 64, 2) := by decide +kernel
theorem dX6_init_77 : decode cX6_init 77 = .ok (.newarray .int, 2) := by decide +kernel
theorem dX6_init_79 : decode cX6_init 79 = .ok (.putfield 25, 3) := by decide +kernel
theorem dX6_init_82 : decode cX6_init 82 = .ok (.aload_n 0, 1) := by decide +kernel
theorem dX6_init_83 : decode cX6_init 83 = .ok (.iconst 4, 1) := by decide +kernel
theorem dX6_init_84 : decode cX6_init 84 = .ok (.newarray .int, 2) := by decide +kernel
theorem dX6_init_86 : decode cX6_init 86 = .ok (.putfield 28, 3) := by decide +kernel
theorem dX6_init_89 : decode cX6_init 89 = .ok (.aload_n 0, 1) := by decide +kernel
theorem dX6_init_90 : decode cX6_init 90 = .ok (.iconst 4, 1) := by decide +kernel
theorem dX6_init_91 : decode cX6_init 91 = .ok (.newarray .int, 2) := by decide +kernel
theorem dX6_init_93 : decode cX6_init 93 = .ok (.putfield 31, 3) := by decide +kernel
theorem dX6_init_96 : decode cX6_init 96 = .ok (.aload_n 0, 1) := by decide +kernel
theorem dX6_init_97 : decode cX6_init 97 = .ok (.iconst 4, 1) := by decide +kernel
theorem dX6_init_98 : decode cX6_init 98 = .ok (.newarray .int, 2) := by decide +kernel
theorem dX6_init_100 : decode cX6_init 100 = .ok (.dup, 1) := by decide +kernel
theorem dX6_init_101 : decode cX6_init 101 = .ok (.iconst 0, 1) := by decide +kernel
theorem dX6_init_102 : decode cX6_init 102 = .ok (.iconst (-1), 1) := by decide +kernel
theorem dX6_init_103 : decode cX6_init 103 = .ok (.iastore, 1) := by decide +kernel
theorem dX6_init_104 : decode cX6_init 104 = .ok (.dup, 1) := by decide +kernel
theorem dX6_init_105 : decode cX6_init 105 = .ok (.iconst 1, 1) := by decide +kernel
theorem dX6_init_106 : decode cX6_init 106 = .ok (.iconst (-1), 1) := by decide +kernel
theorem dX6_init_107 : decode cX6_init 107 = .ok (.iastore, 1) := by decide +kernel
theorem dX6_init_108 : decode cX6_init 108 = .ok (.dup, 1) := by decide +kernel
theorem dX6_init_109 : decode cX6_init 109 = .ok (.iconst 2, 1) := by decide +kernel
theorem dX6_init_110 : decode cX6_init 110 = .ok (.iconst (-1), 1) := by decide +kernel
theorem dX6_init_111 : decode cX6_init 111 = .ok (.iastore, 1) := by decide +kernel
theorem dX6_init_112 : decode cX6_init 112 = .ok (.dup, 1) := by decide +kernel
theorem dX6_init_113 : decode cX6_init 113 = .ok (.iconst 3, 1) := by decide +kernel
theorem dX6_init_114 : decode cX6_init 114 = .ok (.iconst (-1), 1) := by decide +kernel
theorem dX6_init_115 : decode cX6_init 115 = .ok (.iastore, 1) := by decide +kernel
theorem dX6_init_116 : decode cX6_init 116 = .ok (.putfield 34, 3) := by decide +kernel
theorem dX6_init_119 : decode cX6_init 119 = .ok (.aload_n 0, 1) := by decide +kernel
theorem dX6_init_120 : decode cX6_init 120 = .ok (.iconst 4, 1) := by decide +kernel
theorem dX6_init_121 : decode cX6_init 121 = .ok (.newarray .int, 2) := by decide +kernel
theorem dX6_init_123 : decode cX6_init 123 = .ok (.dup, 1) := by decide +kernel
theorem dX6_init_124 : decode cX6_init 124 = .ok (.iconst 0, 1) := by decide +kernel
theorem dX6_init_125 : decode cX6_init 125 = .ok (.iconst (-1), 1) := by decide +kernel
theorem dX6_init_126 : decode cX6_init 126 = .ok (.iastore, 1) := by decide +kernel
theorem dX6_init_127 : decode cX6_init 127 = .ok (.dup, 1) := by decide +kernel
theorem dX6_init_128 : decode cX6_init 128 = .ok (.iconst 1, 1) := by decide +kernel
theorem dX6_init_129 : decode cX6_init 129 = .ok (.iconst (-1), 1) := by decide +kernel
theorem dX6_init_130 : decode cX6_init 130 = .ok (.iastore, 1) := by decide +kernel
theorem dX6_init_131 : decode cX6_init 131 = .ok (.dup, 1) := by decide +kernel
theorem dX6_init_132 : decode cX6_init 132 = .ok (.iconst 2, 1) := by decide +kernel
theorem dX6_init_133 : decode cX6_init 133 = .ok (.iconst (-1), 1) := by decide +kernel
theorem dX6_init_134 : decode cX6_init 134 = .ok (.iastore, 1) := by decide +kernel
theorem dX6_init_135 : decode cX6_init 135 = .ok (.dup, 1) := by decide +kernel
theorem dX6_init_136 : decode cX6_init 136 = .ok (.iconst 3, 1) := by decide +kernel
theorem dX6_init_137 : decode cX6_init 137 = .ok (.iconst (-1), 1) := by decide +kernel
theorem dX6_init_138 : decode cX6_init 138 = .ok (.iastore, 1) := by decide +kernel
theorem dX6_init_139 : decode cX6_init 139 = .ok (.putfield 37, 3) := by decide +kernel
theorem dX6_init_142 : decode cX6_init 142 = .ok (.aload_n 0, 1) := by decide +kernel
theorem dX6_init_143 : decode cX6_init 143 = .ok (.iconst 4, 1) := by decide +kernel
theorem dX6_init_144 : decode cX6_init 144 = .ok (.newarray .boolean, 2) := by decide +kernel
theorem dX6_init_146 : decode cX6_init 146 = .ok (.putfield 40, 3) := by decide +kernel
theorem dX6_init_149 : decode cX6_init 149 = .ok (.aload_n 0, 1) := by decide +kernel
theorem dX6_init_150 : decode cX6_init 150 = .ok (.iconst 4, 1) := by decide +kernel
theorem dX6_init_151 : decode cX6_init 151 = .ok (.newarray .int, 2) := by decide +kernel
theorem dX6_init_153 : decode cX6_init 153 = .ok (.putfield 44, 3) := by decide +kernel
theorem dX6_init_156 : decode cX6_init 156 = .ok (.aload_n 0, 1) := by decide +kernel
theorem dX6_init_157 : decode cX6_init 157 = .ok (.iconst 4, 1) := by decide +kernel
theorem dX6_init_158 : decode cX6_init 158 = .ok (.newarray .boolean, 2) := by decide +kernel
theorem dX6_init_160 : decode cX6_init 160 = .ok (.putfield 47, 3) := by decide +kernel
theorem dX6_init_163 : decode cX6_init 163 = .ok (.aload_n 0, 1) := by decide +kernel
theorem dX6_init_164 : decode cX6_init 164 = .ok (.iconst 4, 1) := by decide +kernel
theorem dX6_init_165 : decode cX6_init 165 = .ok (.newarray .int, 2) := by decide +kernel
theorem dX6_init_167 : decode cX6_init 167 = .ok (.putfield 50, 3) := by decide +kernel
theorem dX6_init_170 : decode cX6_init 170 = .ok (.aload_n 0, 1) := by decide +kernel
theorem dX6_init_171 : decode cX6_init 171 = .ok (.iconst 4, 1) := by decide +kernel
theorem dX6_init_172 : decode cX6_init 172 = .ok (.newarray .int, 2) := by decide +kernel
theorem dX6_init_174 : decode cX6_init 174 = .ok (.putfield 53, 3) := by decide +kernel
theorem dX6_init_177 : decode cX6_init 177 = .ok (.aload_n 0, 1) := by decide +kernel
theorem dX6_init_178 : decode cX6_init 178 = .ok (.iconst 4, 1) := by decide +kernel
theorem dX6_init_179 : decode cX6_init 179 = .ok (.newarray .int, 2) := by decide +kernel
theorem dX6_init_181 : decode cX6_init 181 = .ok (.putfield 56, 3) := by decide +kernel
theorem dX6_init_184 : decode cX6_init 184 = .ok (.aload_n 0, 1) := by decide +kernel
theorem dX6_init_185 : decode cX6_init 185 = .ok (.bipush 16, 2) := by decide +kernel
theorem dX6_init_187 : decode cX6_init 187 = .ok (.newarray .int, 2) := by decide +kernel
theorem dX6_init_189 : decode cX6_init 189 = .ok (.putfield 59, 3) := by decide +kernel
theorem dX6_init_192 : decode cX6_init 192 = .ok (.aload_n 0, 1) := by decide +kernel
theorem dX6_init_193 : decode cX6_init 193 = .ok (.bipush 16, 2) := by decide +kernel
theorem dX6_init_195 : decode cX6_init 195 = .ok (.newarray .int, 2) := by decide +kernel
theorem dX6_init_197 : decode cX6_init 197 = .ok (.putfield 62, 3) := by decide +kernel
theorem dX6_init_200 : decode cX6_init 200 = .ok (.aload_n 0, 1) := by decide +kernel
theorem dX6_init_201 : decode cX6_init 201 = .ok (.bipush 16, 2) := by decide +kernel
theorem dX6_init_203 : decode cX6_init 203 = .ok (.newarray .int, 2) := by decide +kernel
theorem dX6_init_205 : decode cX6_init 205 = .ok (.putfield 65, 3) := by decide +kernel
theorem dX6_init_208 : decode cX6_init 208 = .ok (.aload_n 0, 1) := by decide +kernel
theorem dX6_init_209 : decode cX6_init 209 = .ok (.bipush 16, 2) := by decide +kernel
theorem dX6_init_211 : decode cX6_init 211 = .ok (.newarray .boolean, 2) := by decide +kernel
theorem dX6_init_213 : decode cX6_init 213 = .ok (.putfield 68, 3) := by decide +kernel
theorem dX6_init_216 : decode cX6_init 216 = .ok (.aload_n 0, 1) := by decide +kernel
theorem dX6_init_217 : decode cX6_init 217 = .ok (.sipush 4480, 3) := by decide +kernel
theorem dX6_init_220 : decode cX6_init 220 = .ok (.newarray .int, 2) := by decide +kernel
theorem dX6_init_222 : decode cX6_init 222 = .ok (.putfield 71, 3) := by decide +kernel
theorem dX6_init_225 : decode cX6_init 225 = .ok (.aload_n 0, 1) := by decide +kernel
theorem dX6_init_226 : decode cX6_init 226 = .ok (.bipush 16, 2) := by decide +kernel
theorem dX6_init_228 : decode cX6_init 228 = .ok (.newarray .int, 2) := by decide +kernel
theorem dX6_init_230 : decode cX6_init 230 = .ok (.putfield 74, 3) := by decide +kernel
theorem dX6_init_233 : decode cX6_init 233 = .ok (.aload_n 0, 1) := by decide +kernel
theorem dX6_init_234 : decode cX6_init 234 = .ok (.sipush 2800, 3) := by decide +kernel
theorem dX6_init_237 : decode cX6_init 237 = .ok (.newarray .int, 2) := by decide +kernel
theorem dX6_init_239 : decode cX6_init 239 = .ok (.putfield 77, 3) := by decide +kernel
theorem dX6_init_242 : decode cX6_init 242 = .ok (.aload_n 0, 1) := by decide +kernel
theorem dX6_init_243 : decode cX6_init 243 = .ok (.bipush 7, 2) := by decide +kernel
theorem dX6_init_245 : decode cX6_init 245 = .ok (.newarray .int, 2) := by decide +kernel
theorem dX6_init_247 : decode cX6_init 247 = .ok (.putfield 80, 3) := by decide +kernel
theorem dX6_init_250 : decode cX6_init 250 = .ok (.iconst 0, 1) := by decide +kernel
theorem dX6_init_251 : decode cX6_init 251 = .ok (.istore_n 1, 1) := by decide +kernel
theorem dX6_init_252 : decode cX6_init 252 = .ok (.iload_n 1, 1) := by decide +kernel
theorem dX6_init_253 : decode cX6_init 253 = .ok (.bipush 64, 2) := by decide +kernel
theorem dX6_init_255 : decode cX6_init 255 = .ok (.if_icmp .ge 16, 3) := by decide +kernel
theorem dX6_init_258 : decode cX6_init 258 = .ok (.aload_n 0, 1) := by decide +kernel
theorem dX6_init_259 : decode cX6_init 259 = .ok (.getfield 25, 3) := by decide +kernel
theorem dX6_init_262 : decode cX6_init 262 = .ok (.iload_n 1, 1) := by decide +kernel
theorem dX6_init_263 : decode cX6_init 263 = .ok (.iconst (-1), 1) := by decide +kernel
theorem dX6_init_264 : decode cX6_init 264 = .ok (.iastore, 1) := by decide +kernel
theorem dX6_init_265 : decode cX6_init 265 = .ok (.iinc 1 1, 3) := by decide +kernel
theorem dX6_init_268 : decode cX6_init 268 = .ok (.goto (-16), 3) := by decide +kernel
theorem dX6_init_271 : decode cX6_init 271 = .ok (.iconst 0, 1) := by decide +kernel
theorem dX6_init_272 : decode cX6_init 272 = .ok (.istore_n 1, 1) := by decide +kernel
theorem dX6_init_273 : decode cX6_init 273 = .ok (.iload_n 1, 1) := by decide +kernel
theorem dX6_init_274 : decode cX6_init 274 = .ok (.bipush 16, 2) := by decide +kernel
theorem dX6_init_276 : decode cX6_init 276 = .ok (.if_icmp .ge 16, 3) := by decide +kernel
theorem dX6_init_279 : decode cX6_init 279 = .ok (.aload_n 0, 1) := by decide +kernel
theorem dX6_init_280 : decode cX6_init 280 = .ok (.getfield 62, 3) := by decide +kernel
theorem dX6_init_283 : decode cX6_init 283 = .ok (.iload_n 1, 1) := by decide +kernel
theorem dX6_init_284 : decode cX6_init 284 = .ok (.iconst (-1), 1) := by decide +kernel
theorem dX6_init_285 : decode cX6_init 285 = .ok (.iastore, 1) := by decide +kernel
theorem dX6_init_286 : decode cX6_init 286 = .ok (.iinc 1 1, 3) := by decide +kernel
theorem dX6_init_289 : decode cX6_init 289 = .ok (.goto (-16), 3) := by decide +kernel
theorem dX6_init_292 : decode cX6_init 292 = .ok (.return_, 1) := by decide +kernel
theorem dX6_thrown_0 : decode cX6_thrown 0 = .ok (.aload_n 0, 1) := by decide +kernel
theorem dX6_thrown_1 : decode cX6_thrown 1 = .ok (.getfield 83, 3) := by decide +kernel
theorem dX6_thrown_4 : decode cX6_thrown 4 = .ok (.ireturn, 1) := by decide +kernel
theorem dX6_fail_0 : decode cX6_fail 0 = .ok (.aload_n 0, 1) := by decide +kernel
theorem dX6_fail_1 : decode cX6_fail 1 = .ok (.iload_n 1, 1) := by decide +kernel
theorem dX6_fail_2 : decode cX6_fail 2 = .ok (.putfield 83, 3) := by decide +kernel
theorem dX6_fail_5 : decode cX6_fail 5 = .ok (.iconst 0, 1) := by decide +kernel
theorem dX6_fail_6 : decode cX6_fail 6 = .ok (.ireturn, 1) := by decide +kernel
theorem dX6_failed_0 : decode cX6_failed 0 = .ok (.aload_n 0, 1) := by decide +kernel
theorem dX6_failed_1 : decode cX6_failed 1 = .ok (.iload_n 1, 1) := by decide +kernel
theorem dX6_failed_2 : decode cX6_failed 2 = .ok (.putfield 83, 3) := by decide +kernel
theorem dX6_failed_5 : decode cX6_failed 5 = .ok (.iconst 0, 1) := by decide +kernel
theorem dX6_failed_6 : decode cX6_failed 6 = .ok (.ireturn, 1) := by decide +kernel
theorem dX6_isCache_0 : decode cX6_isCache 0 = .ok (.iload_n 0, 1) := by decide +kernel
theorem dX6_isCache_1 : decode cX6_isCache 1 = .ok (.ifCond .lt 12, 3) := by decide +kernel
theorem dX6_isCache_4 : decode cX6_isCache 4 = .ok (.iload_n 0, 1) := by decide +kernel
theorem dX6_isCache_5 : decode cX6_isCache 5 = .ok (.iconst 4, 1) := by decide +kernel
theorem dX6_isCache_6 : decode cX6_isCache 6 = .ok (.if_icmp .ge 7, 3) := by decide +kernel
theorem dX6_isCache_9 : decode cX6_isCache 9 = .ok (.iconst 1, 1) := by decide +kernel
theorem dX6_isCache_10 : decode cX6_isCache 10 = .ok (.goto 4, 3) := by decide +kernel
theorem dX6_isCache_13 : decode cX6_isCache 13 = .ok (.iconst 0, 1) := by decide +kernel
theorem dX6_isCache_14 : decode cX6_isCache 14 = .ok (.ireturn, 1) := by decide +kernel
theorem dX6_isLine_0 : decode cX6_isLine 0 = .ok (.iload_n 0, 1) := by decide +kernel
theorem dX6_isLine_1 : decode cX6_isLine 1 = .ok (.ifCond .lt 13, 3) := by decide +kernel
theorem dX6_isLine_4 : decode cX6_isLine 4 = .ok (.iload_n 0, 1) := by decide +kernel
theorem dX6_isLine_5 : decode cX6_isLine 5 = .ok (.bipush 16, 2) := by decide +kernel
theorem dX6_isLine_7 : decode cX6_isLine 7 = .ok (.if_icmp .ge 7, 3) := by decide +kernel
theorem dX6_isLine_10 : decode cX6_isLine 10 = .ok (.iconst 1, 1) := by decide +kernel
theorem dX6_isLine_11 : decode cX6_isLine 11 = .ok (.goto 4, 3) := by decide +kernel
theorem dX6_isLine_14 : decode cX6_isLine 14 = .ok (.iconst 0, 1) := by decide +kernel
theorem dX6_isLine_15 : decode cX6_isLine 15 = .ok (.ireturn, 1) := by decide +kernel
theorem dX6_at_0 : decode cX6_at 0 = .ok (.bipush 16, 2) := by decide +kernel
theorem dX6_at_2 : decode cX6_at 2 = .ok (.iload_n 0, 1) := by decide +kernel
theorem dX6_at_3 : decode cX6_at 3 = .ok (.imul, 1) := by decide +kernel
theorem dX6_at_4 : decode cX6_at 4 = .ok (.iload_n 1, 1) := by decide +kernel
theorem dX6_at_5 : decode cX6_at 5 = .ok (.iadd, 1) := by decide +kernel
theorem dX6_at_6 : decode cX6_at 6 = .ok (.ireturn, 1) := by decide +kernel
set_option maxRecDepth 20000 in
theorem ggX6_linesIn_X6_at : GoodIn wsX6_linesIn wsX6_at := goodIn_r _ [5] (by decide +kernel) (by decide +kernel)
set_option maxRecDepth 20000 in
theorem gX6_linesIn_X6_at : GoodIn wsX6_linesIn (va_wsS RX6 87 yX6_at wsX6_at) := goodIn_app (goodIn_of _ (by decide +kernel)) ggX6_linesIn_X6_at
theorem dX6_linesIn_0 : decode cX6_linesIn 0 = .ok (.iconst 0, 1) := by decide +kernel
theorem dX6_linesIn_1 : decode cX6_linesIn 1 = .ok (.istore_n 2, 1) := by decide +kernel
theorem dX6_linesIn_2 : decode cX6_linesIn 2 = .ok (.iconst 0, 1) := by decide +kernel
theorem dX6_linesIn_3 : decode cX6_linesIn 3 = .ok (.istore_n 3, 1) := by decide +kernel
theorem dX6_linesIn_4 : decode cX6_linesIn 4 = .ok (.iload_n 3, 1) := by decide +kernel
theorem dX6_linesIn_5 : decode cX6_linesIn 5 = .ok (.bipush 16, 2) := by decide +kernel
theorem dX6_linesIn_7 : decode cX6_linesIn 7 = .ok (.if_icmp .ge 30, 3) := by decide +kernel
theorem dX6_linesIn_10 : decode cX6_linesIn 10 = .ok (.iload_n 2, 1) := by decide +kernel
theorem dX6_linesIn_11 : decode cX6_linesIn 11 = .ok (.aload_n 0, 1) := by decide +kernel
theorem dX6_linesIn_12 : decode cX6_linesIn 12 = .ok (.getfield 16, 3) := by decide +kernel
theorem dX6_linesIn_15 : decode cX6_linesIn 15 = .ok (.iload_n 1, 1) := by decide +kernel
theorem dX6_linesIn_16 : decode cX6_linesIn 16 = .ok (.iload_n 3, 1) := by decide +kernel
theorem dX6_linesIn_17 : decode cX6_linesIn 17 = .ok (.invokestatic 87, 3) := by decide +kernel
theorem dX6_linesIn_20 : decode cX6_linesIn 20 = .ok (.iaload, 1) := by decide +kernel
theorem dX6_linesIn_21 : decode cX6_linesIn 21 = .ok (.ifCond .le 7, 3) := by decide +kernel
theorem dX6_linesIn_24 : decode cX6_linesIn 24 = .ok (.iconst 1, 1) := by decide +kernel
theorem dX6_linesIn_25 : decode cX6_linesIn 25 = .ok (.goto 4, 3) := by decide +kernel
theorem dX6_linesIn_28 : decode cX6_linesIn 28 = .ok (.iconst 0, 1) := by decide +kernel
theorem dX6_linesIn_29 : decode cX6_linesIn 29 = .ok (.iadd, 1) := by decide +kernel
theorem dX6_linesIn_30 : decode cX6_linesIn 30 = .ok (.istore_n 2, 1) := by decide +kernel
theorem dX6_linesIn_31 : decode cX6_linesIn 31 = .ok (.iinc 3 1, 3) := by decide +kernel
theorem dX6_linesIn_34 : decode cX6_linesIn 34 = .ok (.goto (-30), 3) := by decide +kernel
theorem dX6_linesIn_37 : decode cX6_linesIn 37 = .ok (.iload_n 2, 1) := by decide +kernel
theorem dX6_linesIn_38 : decode cX6_linesIn 38 = .ok (.ireturn, 1) := by decide +kernel
set_option maxRecDepth 20000 in
theorem ggX6_victimsIn_X6_at : GoodIn wsX6_victimsIn wsX6_at := goodIn_r _ [5] (by decide +kernel) (by decide +kernel)
set_option maxRecDepth 20000 in
theorem gX6_victimsIn_X6_at : GoodIn wsX6_victimsIn (va_wsS RX6 87 yX6_at wsX6_at) := goodIn_app (goodIn_of _ (by decide +kernel)) ggX6_victimsIn_X6_at
theorem dX6_victimsIn_0 : decode cX6_victimsIn 0 = .ok (.iconst 0, 1) := by decide +kernel
theorem dX6_victimsIn_1 : decode cX6_victimsIn 1 = .ok (.istore_n 2, 1) := by decide +kernel
theorem dX6_victimsIn_2 : decode cX6_victimsIn 2 = .ok (.iconst 0, 1) := by decide +kernel
theorem dX6_victimsIn_3 : decode cX6_victimsIn 3 = .ok (.istore_n 3, 1) := by decide +kernel
theorem dX6_victimsIn_4 : decode cX6_victimsIn 4 = .ok (.iload_n 3, 1) := by decide +kernel
theorem dX6_victimsIn_5 : decode cX6_victimsIn 5 = .ok (.bipush 16, 2) := by decide +kernel
theorem dX6_victimsIn_7 : decode cX6_victimsIn 7 = .ok (.if_icmp .ge 30, 3) := by decide +kernel
theorem dX6_victimsIn_10 : decode cX6_victimsIn 10 = .ok (.iload_n 2, 1) := by decide +kernel
theorem dX6_victimsIn_11 : decode cX6_victimsIn 11 = .ok (.aload_n 0, 1) := by decide +kernel
theorem dX6_victimsIn_12 : decode cX6_victimsIn 12 = .ok (.getfield 25, 3) := by decide +kernel
theorem dX6_victimsIn_15 : decode cX6_victimsIn 15 = .ok (.iload_n 1, 1) := by decide +kernel
theorem dX6_victimsIn_16 : decode cX6_victimsIn 16 = .ok (.iload_n 3, 1) := by decide +kernel
theorem dX6_victimsIn_17 : decode cX6_victimsIn 17 = .ok (.invokestatic 87, 3) := by decide +kernel
theorem dX6_victimsIn_20 : decode cX6_victimsIn 20 = .ok (.iaload, 1) := by decide +kernel
theorem dX6_victimsIn_21 : decode cX6_victimsIn 21 = .ok (.ifCond .lt 7, 3) := by decide +kernel
theorem dX6_victimsIn_24 : decode cX6_victimsIn 24 = .ok (.iconst 1, 1) := by decide +kernel
theorem dX6_victimsIn_25 : decode cX6_victimsIn 25 = .ok (.goto 4, 3) := by decide +kernel
theorem dX6_victimsIn_28 : decode cX6_victimsIn 28 = .ok (.iconst 0, 1) := by decide +kernel
theorem dX6_victimsIn_29 : decode cX6_victimsIn 29 = .ok (.iadd, 1) := by decide +kernel
theorem dX6_victimsIn_30 : decode cX6_victimsIn 30 = .ok (.istore_n 2, 1) := by decide +kernel
theorem dX6_victimsIn_31 : decode cX6_victimsIn 31 = .ok (.iinc 3 1, 3) := by decide +kernel
theorem dX6_victimsIn_34 : decode cX6_victimsIn 34 = .ok (.goto (-30), 3) := by decide +kernel
theorem dX6_victimsIn_37 : decode cX6_victimsIn 37 = .ok (.iload_n 2, 1) := by decide +kernel
theorem dX6_victimsIn_38 : decode cX6_victimsIn 38 = .ok (.ireturn, 1) := by decide +kernel
set_option maxRecDepth 20000 in
theorem ggX6_use_X6_at : GoodIn wsX6_use wsX6_at := goodIn_r _ [6] (by decide +kernel) (by decide +kernel)
set_option maxRecDepth 20000 in
theorem gX6_use_X6_at : GoodIn wsX6_use (va_wsS RX6 87 yX6_at wsX6_at) := goodIn_app (goodIn_of _ (by decide +kernel)) ggX6_use_X6_at
theorem dX6_use_0 : decode cX6_use 0 = .ok (.aload_n 0, 1) := by decide +kernel
theorem dX6_use_1 : decode cX6_use 1 = .ok (.dup, 1) := by decide +kernel
theorem dX6_use_2 : decode cX6_use 2 = .ok (.getfield 91, 3) := by decide +kernel
theorem dX6_use_5 : decode cX6_use 5 = .ok (.iconst 1, 1) := by decide +kernel
theorem dX6_use_6 : decode cX6_use 6 = .ok (.iadd, 1) := by decide +kernel
theorem dX6_use_7 : decode cX6_use 7 = .ok (.putfield 91, 3) := by decide +kernel
theorem dX6_use_10 : decode cX6_use 10 = .ok (.aload_n 0, 1) := by decide +kernel
theorem dX6_use_11 : decode cX6_use 11 = .ok (.getfield 22, 3) := by decide +kernel
theorem dX6_use_14 : decode cX6_use 14 = .ok (.iload_n 1, 1) := by decide +kernel
theorem dX6_use_15 : decode cX6_use 15 = .ok (.iload_n 2, 1) := by decide +kernel
theorem dX6_use_16 : decode cX6_use 16 = .ok (.invokestatic 87, 3) := by decide +kernel
theorem dX6_use_19 : decode cX6_use 19 = .ok (.aload_n 0, 1) := by decide +kernel
theorem dX6_use_20 : decode cX6_use 20 = .ok (.getfield 91, 3) := by decide +kernel
theorem dX6_use_23 : decode cX6_use 23 = .ok (.iastore, 1) := by decide +kernel
theorem dX6_use_24 : decode cX6_use 24 = .ok (.return_, 1) := by decide +kernel
set_option maxRecDepth 20000 in
theorem ggX6_lineBy_X6_at : GoodIn wsX6_lineBy wsX6_at := goodIn_r _ [6] (by decide +kernel) (by decide +kernel)
set_option maxRecDepth 20000 in
theorem gX6_lineBy_X6_at : GoodIn wsX6_lineBy (va_wsS RX6 87 yX6_at wsX6_at) := goodIn_app (goodIn_of _ (by decide +kernel)) ggX6_lineBy_X6_at
theorem dX6_lineBy_0 : decode cX6_lineBy 0 = .ok (.iconst 0, 1) := by decide +kernel
theorem dX6_lineBy_1 : decode cX6_lineBy 1 = .ok (.istore_n 3, 1) := by decide +kernel
theorem dX6_lineBy_2 : decode cX6_lineBy 2 = .ok (.iload_n 3, 1) := by decide +kernel
theorem dX6_lineBy_3 : decode cX6_lineBy 3 = .ok (.bipush 16, 2) := by decide +kernel
theorem dX6_lineBy_5 : decode cX6_lineBy 5 = .ok (.if_icmp .ge 100, 3) := by decide +kernel
theorem dX6_lineBy_8 : decode cX6_lineBy 8 = .ok (.aload_n 0, 1) := by decide +kernel
theorem dX6_lineBy_9 : decode cX6_lineBy 9 = .ok (.getfield 16, 3) := by decide +kernel
theorem dX6_lineBy_12 : decode cX6_lineBy 12 = .ok (.iload_n 1, 1) := by decide +kernel
theorem dX6_lineBy_13 : decode cX6_lineBy 13 = .ok (.iload_n 3, 1) := by decide +kernel
theorem dX6_lineBy_14 : decode cX6_lineBy 14 = .ok (.invokestatic 87, 3) := by decide +kernel
theorem dX6_lineBy_17 : decode cX6_lineBy 17 = .ok (.iaload, 1) := by decide +kernel
theorem dX6_lineBy_18 : decode cX6_lineBy 18 = .ok (.ifCond .ne 6, 3) := by decide +kernel
theorem dX6_lineBy_21 : decode cX6_lineBy 21 = .ok (.goto 78, 3) := by decide +kernel
theorem dX6_lineBy_24 : decode cX6_lineBy 24 = .ok (.iconst 0, 1) := by decide +kernel
theorem dX6_lineBy_25 : decode cX6_lineBy 25 = .ok (.istore 4, 2) := by decide +kernel
theorem dX6_lineBy_27 : decode cX6_lineBy 27 = .ok (.iconst 0, 1) := by decide +kernel
theorem dX6_lineBy_28 : decode cX6_lineBy 28 = .ok (.istore 5, 2) := by decide +kernel
theorem dX6_lineBy_30 : decode cX6_lineBy 30 = .ok (.iload 5, 2) := by decide +kernel
theorem dX6_lineBy_32 : decode cX6_lineBy 32 = .ok (.bipush 16, 2) := by decide +kernel
theorem dX6_lineBy_34 : decode cX6_lineBy 34 = .ok (.if_icmp .ge 57, 3) := by decide +kernel
theorem dX6_lineBy_37 : decode cX6_lineBy 37 = .ok (.iload 4, 2) := by decide +kernel
theorem dX6_lineBy_39 : decode cX6_lineBy 39 = .ok (.aload_n 0, 1) := by decide +kernel
theorem dX6_lineBy_40 : decode cX6_lineBy 40 = .ok (.getfield 16, 3) := by decide +kernel
theorem dX6_lineBy_43 : decode cX6_lineBy 43 = .ok (.iload_n 1, 1) := by decide +kernel
theorem dX6_lineBy_44 : decode cX6_lineBy 44 = .ok (.iload 5, 2) := by decide +kernel
theorem dX6_lineBy_46 : decode cX6_lineBy 46 = .ok (.invokestatic 87, 3) := by decide +kernel
theorem dX6_lineBy_49 : decode cX6_lineBy 49 = .ok (.iaload, 1) := by decide +kernel
theorem dX6_lineBy_50 : decode cX6_lineBy 50 = .ok (.ifCond .le 31, 3) := by decide +kernel
theorem dX6_lineBy_53 : decode cX6_lineBy 53 = .ok (.aload_n 0, 1) := by decide +kernel
theorem dX6_lineBy_54 : decode cX6_lineBy 54 = .ok (.getfield 22, 3) := by decide +kernel
theorem dX6_lineBy_57 : decode cX6_lineBy 57 = .ok (.iload_n 1, 1) := by decide +kernel
theorem dX6_lineBy_58 : decode cX6_lineBy 58 = .ok (.iload 5, 2) := by decide +kernel
theorem dX6_lineBy_60 : decode cX6_lineBy 60 = .ok (.invokestatic 87, 3) := by decide +kernel
theorem dX6_lineBy_63 : decode cX6_lineBy 63 = .ok (.iaload, 1) := by decide +kernel
theorem dX6_lineBy_64 : decode cX6_lineBy 64 = .ok (.aload_n 0, 1) := by decide +kernel
theorem dX6_lineBy_65 : decode cX6_lineBy 65 = .ok (.getfield 22, 3) := by decide +kernel
theorem dX6_lineBy_68 : decode cX6_lineBy 68 = .ok (.iload_n 1, 1) := by decide +kernel
theorem dX6_lineBy_69 : decode cX6_lineBy 69 = .ok (.iload_n 3, 1) := by decide +kernel
theorem dX6_lineBy_70 : decode cX6_lineBy 70 = .ok (.invokestatic 87, 3) := by decide +kernel
theorem dX6_lineBy_73 : decode cX6_lineBy 73 = .ok (.iaload, 1) := by decide +kernel
theorem dX6_lineBy_74 : decode cX6_lineBy 74 = .ok (.if_icmp .ge 7, 3) := by decide +kernel
theorem dX6_lineBy_77 : decode cX6_lineBy 77 = .ok (.iconst 1, 1) := by decide +kernel
theorem dX6_lineBy_78 : decode cX6_lineBy 78 = .ok (.goto 4, 3) := by decide +kernel
theorem dX6_lineBy_81 : decode cX6_lineBy 81 = .ok (.iconst 0, 1) := by decide +kernel
theorem dX6_lineBy_82 : decode cX6_lineBy 82 = .ok (.iadd, 1) := by decide +kernel
theorem dX6_lineBy_83 : decode cX6_lineBy 83 = .ok (.istore 4, 2) := by decide +kernel
theorem dX6_lineBy_85 : decode cX6_lineBy 85 = .ok (.iinc 5 1, 3) := by decide +kernel
theorem dX6_lineBy_88 : decode cX6_lineBy 88 = .ok (.goto (-58), 3) := by decide +kernel
theorem dX6_lineBy_91 : decode cX6_lineBy 91 = .ok (.iload 4, 2) := by decide +kernel
theorem dX6_lineBy_93 : decode cX6_lineBy 93 = .ok (.iload_n 2, 1) := by decide +kernel
theorem dX6_lineBy_94 : decode cX6_lineBy 94 = .ok (.if_icmp .ne 5, 3) := by decide +kernel
theorem dX6_lineBy_97 : decode cX6_lineBy 97 = .ok (.iload_n 3, 1) := by decide +kernel
theorem dX6_lineBy_98 : decode cX6_lineBy 98 = .ok (.ireturn, 1) := by decide +kernel
theorem dX6_lineBy_99 : decode cX6_lineBy 99 = .ok (.iinc 3 1, 3) := by decide +kernel
theorem dX6_lineBy_102 : decode cX6_lineBy 102 = .ok (.goto (-100), 3) := by decide +kernel
theorem dX6_lineBy_105 : decode cX6_lineBy 105 = .ok (.iconst (-1), 1) := by decide +kernel
theorem dX6_lineBy_106 : decode cX6_lineBy 106 = .ok (.ireturn, 1) := by decide +kernel
theorem dX6_send_0 : decode cX6_send 0 = .ok (.bipush 7, 2) := by decide +kernel
theorem dX6_send_2 : decode cX6_send 2 = .ok (.aload_n 0, 1) := by decide +kernel
theorem dX6_send_3 : decode cX6_send 3 = .ok (.getfield 94, 3) := by decide +kernel
theorem dX6_send_6 : decode cX6_send 6 = .ok (.imul, 1) := by decide +kernel
theorem dX6_send_7 : decode cX6_send 7 = .ok (.istore 8, 2) := by decide +kernel
theorem dX6_send_9 : decode cX6_send 9 = .ok (.aload_n 0, 1) := by decide +kernel
theorem dX6_send_10 : decode cX6_send 10 = .ok (.getfield 77, 3) := by decide +kernel
theorem dX6_send_13 : decode cX6_send 13 = .ok (.iload 8, 2) := by decide +kernel
theorem dX6_send_15 : decode cX6_send 15 = .ok (.iconst 0, 1) := by decide +kernel
theorem dX6_send_16 : decode cX6_send 16 = .ok (.iadd, 1) := by decide +kernel
theorem dX6_send_17 : decode cX6_send 17 = .ok (.iload_n 1, 1) := by decide +kernel
theorem dX6_send_18 : decode cX6_send 18 = .ok (.iastore, 1) := by decide +kernel
theorem dX6_send_19 : decode cX6_send 19 = .ok (.aload_n 0, 1) := by decide +kernel
theorem dX6_send_20 : decode cX6_send 20 = .ok (.getfield 77, 3) := by decide +kernel
theorem dX6_send_23 : decode cX6_send 23 = .ok (.iload 8, 2) := by decide +kernel
theorem dX6_send_25 : decode cX6_send 25 = .ok (.iconst 1, 1) := by decide +kernel
theorem dX6_send_26 : decode cX6_send 26 = .ok (.iadd, 1) := by decide +kernel
theorem dX6_send_27 : decode cX6_send 27 = .ok (.iload_n 2, 1) := by decide +kernel
theorem dX6_send_28 : decode cX6_send 28 = .ok (.iastore, 1) := by decide +kernel
theorem dX6_send_29 : decode cX6_send 29 = .ok (.aload_n 0, 1) := by decide +kernel
theorem dX6_send_30 : decode cX6_send 30 = .ok (.getfield 77, 3) := by decide +kernel
theorem dX6_send_33 : decode cX6_send 33 = .ok (.iload 8, 2) := by decide +kernel
theorem dX6_send_35 : decode cX6_send 35 = .ok (.iconst 2, 1) := by decide +kernel
theorem dX6_send_36 : decode cX6_send 36 = .ok (.iadd, 1) := by decide +kernel
theorem dX6_send_37 : decode cX6_send 37 = .ok (.iload_n 3, 1) := by decide +kernel
theorem dX6_send_38 : decode cX6_send 38 = .ok (.iastore, 1) := by decide +kernel
theorem dX6_send_39 : decode cX6_send 39 = .ok (.aload_n 0, 1) := by decide +kernel
theorem dX6_send_40 : decode cX6_send 40 = .ok (.getfield 77, 3) := by decide +kernel
theorem dX6_send_43 : decode cX6_send 43 = .ok (.iload 8, 2) := by decide +kernel
theorem dX6_send_45 : decode cX6_send 45 = .ok (.iconst 3, 1) := by decide +kernel
theorem dX6_send_46 : decode cX6_send 46 = .ok (.iadd, 1) := by decide +kernel
theorem dX6_send_47 : decode cX6_send 47 = .ok (.iload 4, 2) := by decide +kernel
theorem dX6_send_49 : decode cX6_send 49 = .ok (.iastore, 1) := by decide +kernel
theorem dX6_send_50 : decode cX6_send 50 = .ok (.aload_n 0, 1) := by decide +kernel
theorem dX6_send_51 : decode cX6_send 51 = .ok (.getfield 77, 3) := by decide +kernel
theorem dX6_send_54 : decode cX6_send 54 = .ok (.iload 8, 2) := by decide +kernel
theorem dX6_send_56 : decode cX6_send 56 = .ok (.iconst 4, 1) := by decide +kernel
theorem dX6_send_57 : decode cX6_send 57 = .ok (.iadd, 1) := by decide +kernel
theorem dX6_send_58 : decode cX6_send 58 = .ok (.iload 5, 2) := by decide +kernel
theorem dX6_send_60 : decode cX6_send 60 = .ok (.iastore, 1) := by decide +kernel
theorem dX6_send_61 : decode cX6_send 61 = .ok (.aload_n 0, 1) := by decide +kernel
theorem dX6_send_62 : decode cX6_send 62 = .ok (.getfield 77, 3) := by decide +kernel
theorem dX6_send_65 : decode cX6_send 65 = .ok (.iload 8, 2) := by decide +kernel
theorem dX6_send_67 : decode cX6_send 67 = .ok (.iconst 5, 1) := by decide +kernel
theorem dX6_send_68 : decode cX6_send 68 = .ok (.iadd, 1) := by decide +kernel
theorem dX6_send_69 : decode cX6_send 69 = .ok (.iload 6, 2) := by decide +kernel
theorem dX6_send_71 : decode cX6_send 71 = .ok (.iastore, 1) := by decide +kernel
theorem dX6_send_72 : decode cX6_send 72 = .ok (.aload_n 0, 1) := by decide +kernel
theorem dX6_send_73 : decode cX6_send 73 = .ok (.getfield 77, 3) := by decide +kernel
theorem dX6_send_76 : decode cX6_send 76 = .ok (.iload 8, 2) := by decide +kernel
theorem dX6_send_78 : decode cX6_send 78 = .ok (.bipush 6, 2) := by decide +kernel
theorem dX6_send_80 : decode cX6_send 80 = .ok (.iadd, 1) := by decide +kernel
theorem dX6_send_81 : decode cX6_send 81 = .ok (.iload 7, 2) := by decide +kernel
theorem dX6_send_83 : decode cX6_send 83 = .ok (.iastore, 1) := by decide +kernel
theorem dX6_send_84 : decode cX6_send 84 = .ok (.aload_n 0, 1) := by decide +kernel
theorem dX6_send_85 : decode cX6_send 85 = .ok (.dup, 1) := by decide +kernel
theorem dX6_send_86 : decode cX6_send 86 = .ok (.getfield 94, 3) := by decide +kernel
theorem dX6_send_89 : decode cX6_send 89 = .ok (.iconst 1, 1) := by decide +kernel
theorem dX6_send_90 : decode cX6_send 90 = .ok (.iadd, 1) := by decide +kernel
theorem dX6_send_91 : decode cX6_send 91 = .ok (.putfield 94, 3) := by decide +kernel
theorem dX6_send_94 : decode cX6_send 94 = .ok (.return_, 1) := by decide +kernel
set_option maxRecDepth 20000 in
theorem ggX6_setRoom_X6_isCache : GoodIn wsX6_setRoom wsX6_isCache := goodIn_r _ [8] (by decide +kernel) (by decide +kernel)
set_option maxRecDepth 20000 in
theorem gX6_setRoom_X6_isCache : GoodIn wsX6_setRoom (va_wsS RX6 97 yX6_isCache wsX6_isCache) := goodIn_app (goodIn_of _ (by decide +kernel)) ggX6_setRoom_X6_isCache
set_option maxRecDepth 20000 in
theorem ggX6_setRoom_X6_failed : GoodIn wsX6_setRoom wsX6_failed := goodIn_r _ [12, 1, 26, 27, 28, 29, 30, 31, 32, 33, 34, 35, 36, 37, 38, 39, 40, 41, 42, 43, 44, 45, 46, 47, 48, 49, 50, 51, 52, 53, 54] (by decide +kernel) (by decide +kernel)
set_option maxRecDepth 20000 in
theorem gX6_setRoom_X6_failed : GoodIn wsX6_setRoom (wsV RX6 101 RX6 yX6_failed wsX6_failed) := goodIn_app (goodIn_of _ (by decide +kernel)) ggX6_setRoom_X6_failed
set_option maxRecDepth 20000 in
theorem ggX6_setRoom_X6_linesIn : GoodIn wsX6_setRoom wsX6_linesIn := goodIn_r _ [16, 17, 18, 19, 7, 20, 26, 27, 28, 29, 30, 31, 32, 33, 34, 35, 36, 37, 38, 39, 40, 41, 42, 43, 44, 45, 46, 47, 48, 49, 50, 51, 52, 53, 54] (by decide +kernel) (by decide +kernel)
set_option maxRecDepth 20000 in
theorem gX6_setRoom_X6_linesIn : GoodIn wsX6_setRoom (wsV RX6 104 RX6 yX6_linesIn wsX6_linesIn) := goodIn_app (goodIn_of _ (by decide +kernel)) ggX6_setRoom_X6_linesIn
set_option maxRecDepth 20000 in
theorem ggX6_setRoom_X6_victimsIn : GoodIn wsX6_setRoom wsX6_victimsIn := goodIn_r _ [24, 25, 18, 19, 7, 20, 26, 27, 28, 29, 30, 31, 32, 33, 34, 35, 36, 37, 38, 39, 40, 41, 42, 43, 44, 45, 46, 47, 48, 49, 50, 51, 52, 53, 54] (by decide +kernel) (by decide +kernel)
set_option maxRecDepth 20000 in
theorem gX6_setRoom_X6_victimsIn : GoodIn wsX6_setRoom (wsV RX6 108 RX6 yX6_victimsIn wsX6_victimsIn) := goodIn_app (goodIn_of _ (by decide +kernel)) ggX6_setRoom_X6_victimsIn
theorem dX6_setRoom_0 : decode cX6_setRoom 0 = .ok (.aload_n 0, 1) := by decide +kernel
theorem dX6_setRoom_1 : decode cX6_setRoom 1 = .ok (.iconst 0, 1) := by decide +kernel
theorem dX6_setRoom_2 : decode cX6_setRoom 2 = .ok (.putfield 83, 3) := by decide +kernel
theorem dX6_setRoom_5 : decode cX6_setRoom 5 = .ok (.iload_n 1, 1) := by decide +kernel
theorem dX6_setRoom_6 : decode cX6_setRoom 6 = .ok (.invokestatic 97, 3) := by decide +kernel
theorem dX6_setRoom_9 : decode cX6_setRoom 9 = .ok (.ifCond .ne 9, 3) := by decide +kernel
theorem dX6_setRoom_12 : decode cX6_setRoom 12 = .ok (.aload_n 0, 1) := by decide +kernel
theorem dX6_setRoom_13 : decode cX6_setRoom 13 = .ok (.iconst 1, 1) := by decide +kernel
theorem dX6_setRoom_14 : decode cX6_setRoom 14 = .ok (.invokevirtual 101, 3) := by decide +kernel
theorem dX6_setRoom_17 : decode cX6_setRoom 17 = .ok (.ireturn, 1) := by decide +kernel
theorem dX6_setRoom_18 : decode cX6_setRoom 18 = .ok (.iload_n 2, 1) := by decide +kernel
theorem dX6_setRoom_19 : decode cX6_setRoom 19 = .ok (.iconst 1, 1) := by decide +kernel
theorem dX6_setRoom_20 : decode cX6_setRoom 20 = .ok (.if_icmp .lt 17, 3) := by decide +kernel
theorem dX6_setRoom_23 : decode cX6_setRoom 23 = .ok (.iload_n 2, 1) := by decide +kernel
theorem dX6_setRoom_24 : decode cX6_setRoom 24 = .ok (.iconst 4, 1) := by decide +kernel
theorem dX6_setRoom_25 : decode cX6_setRoom 25 = .ok (.if_icmp .gt 12, 3) := by decide +kernel
theorem dX6_setRoom_28 : decode cX6_setRoom 28 = .ok (.iload_n 3, 1) := by decide +kernel
theorem dX6_setRoom_29 : decode cX6_setRoom 29 = .ok (.ifCond .lt 8, 3) := by decide +kernel
theorem dX6_setRoom_32 : decode cX6_setRoom 32 = .ok (.iload_n 3, 1) := by decide +kernel
theorem dX6_setRoom_33 : decode cX6_setRoom 33 = .ok (.iconst 2, 1) := by decide +kernel
theorem dX6_setRoom_34 : decode cX6_setRoom 34 = .ok (.if_icmp .le 9, 3) := by decide +kernel
theorem dX6_setRoom_37 : decode cX6_setRoom 37 = .ok (.aload_n 0, 1) := by decide +kernel
theorem dX6_setRoom_38 : decode cX6_setRoom 38 = .ok (.iconst 2, 1) := by decide +kernel
theorem dX6_setRoom_39 : decode cX6_setRoom 39 = .ok (.invokevirtual 101, 3) := by decide +kernel
theorem dX6_setRoom_42 : decode cX6_setRoom 42 = .ok (.ireturn, 1) := by decide +kernel
theorem dX6_setRoom_43 : decode cX6_setRoom 43 = .ok (.aload_n 0, 1) := by decide +kernel
theorem dX6_setRoom_44 : decode cX6_setRoom 44 = .ok (.iload_n 1, 1) := by decide +kernel
theorem dX6_setRoom_45 : decode cX6_setRoom 45 = .ok (.invokevirtual 104, 3) := by decide +kernel
theorem dX6_setRoom_48 : decode cX6_setRoom 48 = .ok (.ifCond .gt 21, 3) := by decide +kernel
theorem dX6_setRoom_51 : decode cX6_setRoom 51 = .ok (.aload_n 0, 1) := by decide +kernel
theorem dX6_setRoom_52 : decode cX6_setRoom 52 = .ok (.iload_n 1, 1) := by decide +kernel
theorem dX6_setRoom_53 : decode cX6_setRoom 53 = .ok (.invokevirtual 108, 3) := by decide +kernel
theorem dX6_setRoom_56 : decode cX6_setRoom 56 = .ok (.ifCond .gt 13, 3) := by decide +kernel
theorem dX6_setRoom_59 : decode cX6_setRoom 59 = .ok (.aload_n 0, 1) := by decide +kernel
theorem dX6_setRoom_60 : decode cX6_setRoom 60 = .ok (.getfield 37, 3) := by decide +kernel
theorem dX6_setRoom_63 : decode cX6_setRoom 63 = .ok (.iload_n 1, 1) := by decide +kernel
theorem dX6_setRoom_64 : decode cX6_setRoom 64 = .ok (.iaload, 1) := by decide +kernel
theorem dX6_setRoom_65 : decode cX6_setRoom 65 = .ok (.iconst (-1), 1) := by decide +kernel
theorem dX6_setRoom_66 : decode cX6_setRoom 66 = .ok (.if_icmp .eq 9, 3) := by decide +kernel
theorem dX6_setRoom_69 : decode cX6_setRoom 69 = .ok (.aload_n 0, 1) := by decide +kernel
theorem dX6_setRoom_70 : decode cX6_setRoom 70 = .ok (.iconst 3, 1) := by decide +kernel
theorem dX6_setRoom_71 : decode cX6_setRoom 71 = .ok (.invokevirtual 101, 3) := by decide +kernel
theorem dX6_setRoom_74 : decode cX6_setRoom 74 = .ok (.ireturn, 1) := by decide +kernel
theorem dX6_setRoom_75 : decode cX6_setRoom 75 = .ok (.aload_n 0, 1) := by decide +kernel
theorem dX6_setRoom_76 : decode cX6_setRoom 76 = .ok (.getfield 7, 3) := by decide +kernel
theorem dX6_setRoom_79 : decode cX6_setRoom 79 = .ok (.iload_n 1, 1) := by decide +kernel
theorem dX6_setRoom_80 : decode cX6_setRoom 80 = .ok (.iaload, 1) := by decide +kernel
theorem dX6_setRoom_81 : decode cX6_setRoom 81 = .ok (.iload_n 2, 1) := by decide +kernel
theorem dX6_setRoom_82 : decode cX6_setRoom 82 = .ok (.if_icmp .ne 13, 3) := by decide +kernel
theorem dX6_setRoom_85 : decode cX6_setRoom 85 = .ok (.aload_n 0, 1) := by decide +kernel
theorem dX6_setRoom_86 : decode cX6_setRoom 86 = .ok (.getfield 13, 3) := by decide +kernel
theorem dX6_setRoom_89 : decode cX6_setRoom 89 = .ok (.iload_n 1, 1) := by decide +kernel
theorem dX6_setRoom_90 : decode cX6_setRoom 90 = .ok (.iaload, 1) := by decide +kernel
theorem dX6_setRoom_91 : decode cX6_setRoom 91 = .ok (.iload_n 3, 1) := by decide +kernel
theorem dX6_setRoom_92 : decode cX6_setRoom 92 = .ok (.if_icmp .eq 7, 3) := by decide +kernel
theorem dX6_setRoom_95 : decode cX6_setRoom 95 = .ok (.iconst 1, 1) := by decide +kernel
theorem dX6_setRoom_96 : decode cX6_setRoom 96 = .ok (.goto 4, 3) := by decide +kernel
theorem dX6_setRoom_99 : decode cX6_setRoom 99 = .ok (.iconst 0, 1) := by decide +kernel
theorem dX6_setRoom_100 : decode cX6_setRoom 100 = .ok (.istore 4, 2) := by decide +kernel
theorem dX6_setRoom_102 : decode cX6_setRoom 102 = .ok (.aload_n 0, 1) := by decide +kernel
theorem dX6_setRoom_103 : decode cX6_setRoom 103 = .ok (.getfield 7, 3) := by decide +kernel
theorem dX6_setRoom_106 : decode cX6_setRoom 106 = .ok (.iload_n 1, 1) := by decide +kernel
theorem dX6_setRoom_107 : decode cX6_setRoom 107 = .ok (.iload_n 2, 1) := by decide +kernel
theorem dX6_setRoom_108 : decode cX6_setRoom 108 = .ok (.iastore, 1) := by decide +kernel
theorem dX6_setRoom_109 : decode cX6_setRoom 109 = .ok (.aload_n 0, 1) := by decide +kernel
theorem dX6_setRoom_110 : decode cX6_setRoom 110 = .ok (.getfield 13, 3) := by decide +kernel
theorem dX6_setRoom_113 : decode cX6_setRoom 113 = .ok (.iload_n 1, 1) := by decide +kernel
theorem dX6_setRoom_114 : decode cX6_setRoom 114 = .ok (.iload_n 3, 1) := by decide +kernel
theorem dX6_setRoom_115 : decode cX6_setRoom 115 = .ok (.iastore, 1) := by decide +kernel
theorem dX6_setRoom_116 : decode cX6_setRoom 116 = .ok (.iload 4, 2) := by decide +kernel
theorem dX6_setRoom_118 : decode cX6_setRoom 118 = .ok (.ireturn, 1) := by decide +kernel
set_option maxRecDepth 20000 in
theorem ggX6_canRemove_X6_at : GoodIn wsX6_canRemove wsX6_at := goodIn_r _ [6] (by decide +kernel) (by decide +kernel)
set_option maxRecDepth 20000 in
theorem gX6_canRemove_X6_at : GoodIn wsX6_canRemove (va_wsS RX6 87 yX6_at wsX6_at) := goodIn_app (goodIn_of _ (by decide +kernel)) ggX6_canRemove_X6_at
set_option maxRecDepth 20000 in
theorem ggX6_canRemove_X6_victimsIn : GoodIn wsX6_canRemove wsX6_victimsIn := goodIn_r _ [10, 11, 3, 4, 5, 6, 12, 13, 14, 15, 16, 17, 18, 19, 20, 21, 22, 23, 24, 25, 26, 27, 28, 29, 30, 31, 32, 33, 34, 35, 36, 37, 38, 39, 40] (by decide +kernel) (by decide +kernel)
set_option maxRecDepth 20000 in
theorem gX6_canRemove_X6_victimsIn : GoodIn wsX6_canRemove (wsV RX6 108 RX6 yX6_victimsIn wsX6_victimsIn) := goodIn_app (goodIn_of _ (by decide +kernel)) ggX6_canRemove_X6_victimsIn
theorem dX6_canRemove_0 : decode cX6_canRemove 0 = .ok (.aload_n 0, 1) := by decide +kernel
theorem dX6_canRemove_1 : decode cX6_canRemove 1 = .ok (.getfield 16, 3) := by decide +kernel
theorem dX6_canRemove_4 : decode cX6_canRemove 4 = .ok (.iload_n 1, 1) := by decide +kernel
theorem dX6_canRemove_5 : decode cX6_canRemove 5 = .ok (.iload_n 2, 1) := by decide +kernel
theorem dX6_canRemove_6 : decode cX6_canRemove 6 = .ok (.invokestatic 87, 3) := by decide +kernel
theorem dX6_canRemove_9 : decode cX6_canRemove 9 = .ok (.iaload, 1) := by decide +kernel
theorem dX6_canRemove_10 : decode cX6_canRemove 10 = .ok (.iconst 1, 1) := by decide +kernel
theorem dX6_canRemove_11 : decode cX6_canRemove 11 = .ok (.if_icmp .eq 17, 3) := by decide +kernel
theorem dX6_canRemove_14 : decode cX6_canRemove 14 = .ok (.aload_n 0, 1) := by decide +kernel
theorem dX6_canRemove_15 : decode cX6_canRemove 15 = .ok (.iload_n 1, 1) := by decide +kernel
theorem dX6_canRemove_16 : decode cX6_canRemove 16 = .ok (.invokevirtual 108, 3) := by decide +kernel
theorem dX6_canRemove_19 : decode cX6_canRemove 19 = .ok (.aload_n 0, 1) := by decide +kernel
theorem dX6_canRemove_20 : decode cX6_canRemove 20 = .ok (.getfield 13, 3) := by decide +kernel
theorem dX6_canRemove_23 : decode cX6_canRemove 23 = .ok (.iload_n 1, 1) := by decide +kernel
theorem dX6_canRemove_24 : decode cX6_canRemove 24 = .ok (.iaload, 1) := by decide +kernel
theorem dX6_canRemove_25 : decode cX6_canRemove 25 = .ok (.if_icmp .ge 7, 3) := by decide +kernel
theorem dX6_canRemove_28 : decode cX6_canRemove 28 = .ok (.iconst 1, 1) := by decide +kernel
theorem dX6_canRemove_29 : decode cX6_canRemove 29 = .ok (.goto 4, 3) := by decide +kernel
theorem dX6_canRemove_32 : decode cX6_canRemove 32 = .ok (.iconst 0, 1) := by decide +kernel
theorem dX6_canRemove_33 : decode cX6_canRemove 33 = .ok (.ireturn, 1) := by decide +kernel
set_option maxRecDepth 20000 in
theorem ggX6_remove_X6_at : GoodIn wsX6_remove wsX6_at := goodIn_r _ [7] (by decide +kernel) (by decide +kernel)
set_option maxRecDepth 20000 in
theorem gX6_remove_X6_at : GoodIn wsX6_remove (va_wsS RX6 87 yX6_at wsX6_at) := goodIn_app (goodIn_of _ (by decide +kernel)) ggX6_remove_X6_at
set_option maxRecDepth 20000 in
theorem ggX6_remove_X6_send : GoodIn wsX6_remove wsX6_send := goodIn_r _ [11, 12, 13, 14, 15, 16, 17, 18, 19, 20, 21, 22, 23, 24, 25, 26, 27, 28, 29, 30, 31, 32, 33, 34, 35, 36, 37, 38, 39, 40, 41, 42] (by decide +kernel) (by decide +kernel)
set_option maxRecDepth 20000 in
theorem gX6_remove_X6_send : GoodIn wsX6_remove (wsV RX6 111 RX6 yX6_send wsX6_send) := goodIn_app (goodIn_of _ (by decide +kernel)) ggX6_remove_X6_send
theorem dX6_remove_0 : decode cX6_remove 0 = .ok (.aload_n 0, 1) := by decide +kernel
theorem dX6_remove_1 : decode cX6_remove 1 = .ok (.getfield 16, 3) := by decide +kernel
theorem dX6_remove_4 : decode cX6_remove 4 = .ok (.iload_n 1, 1) := by decide +kernel
theorem dX6_remove_5 : decode cX6_remove 5 = .ok (.iload_n 2, 1) := by decide +kernel
theorem dX6_remove_6 : decode cX6_remove 6 = .ok (.invokestatic 87, 3) := by decide +kernel
theorem dX6_remove_9 : decode cX6_remove 9 = .ok (.iaload, 1) := by decide +kernel
theorem dX6_remove_10 : decode cX6_remove 10 = .ok (.iconst 1, 1) := by decide +kernel
theorem dX6_remove_11 : decode cX6_remove 11 = .ok (.if_icmp .eq 43, 3) := by decide +kernel
theorem dX6_remove_14 : decode cX6_remove 14 = .ok (.aload_n 0, 1) := by decide +kernel
theorem dX6_remove_15 : decode cX6_remove 15 = .ok (.getfield 25, 3) := by decide +kernel
theorem dX6_remove_18 : decode cX6_remove 18 = .ok (.iload_n 1, 1) := by decide +kernel
theorem dX6_remove_19 : decode cX6_remove 19 = .ok (.iload_n 2, 1) := by decide +kernel
theorem dX6_remove_20 : decode cX6_remove 20 = .ok (.invokestatic 87, 3) := by decide +kernel
theorem dX6_remove_23 : decode cX6_remove 23 = .ok (.aload_n 0, 1) := by decide +kernel
theorem dX6_remove_24 : decode cX6_remove 24 = .ok (.getfield 19, 3) := by decide +kernel
theorem dX6_remove_27 : decode cX6_remove 27 = .ok (.iload_n 1, 1) := by decide +kernel
theorem dX6_remove_28 : decode cX6_remove 28 = .ok (.iload_n 2, 1) := by decide +kernel
theorem dX6_remove_29 : decode cX6_remove 29 = .ok (.invokestatic 87, 3) := by decide +kernel
theorem dX6_remove_32 : decode cX6_remove 32 = .ok (.iaload, 1) := by decide +kernel
theorem dX6_remove_33 : decode cX6_remove 33 = .ok (.iastore, 1) := by decide +kernel
theorem dX6_remove_34 : decode cX6_remove 34 = .ok (.aload_n 0, 1) := by decide +kernel
theorem dX6_remove_35 : decode cX6_remove 35 = .ok (.iconst 3, 1) := by decide +kernel
theorem dX6_remove_36 : decode cX6_remove 36 = .ok (.iload_n 2, 1) := by decide +kernel
theorem dX6_remove_37 : decode cX6_remove 37 = .ok (.iload_n 1, 1) := by decide +kernel
theorem dX6_remove_38 : decode cX6_remove 38 = .ok (.iconst (-1), 1) := by decide +kernel
theorem dX6_remove_39 : decode cX6_remove 39 = .ok (.aload_n 0, 1) := by decide +kernel
theorem dX6_remove_40 : decode cX6_remove 40 = .ok (.getfield 19, 3) := by decide +kernel
theorem dX6_remove_43 : decode cX6_remove 43 = .ok (.iload_n 1, 1) := by decide +kernel
theorem dX6_remove_44 : decode cX6_remove 44 = .ok (.iload_n 2, 1) := by decide +kernel
theorem dX6_remove_45 : decode cX6_remove 45 = .ok (.invokestatic 87, 3) := by decide +kernel
theorem dX6_remove_48 : decode cX6_remove 48 = .ok (.iaload, 1) := by decide +kernel
theorem dX6_remove_49 : decode cX6_remove 49 = .ok (.iconst 0, 1) := by decide +kernel
theorem dX6_remove_50 : decode cX6_remove 50 = .ok (.iconst (-1), 1) := by decide +kernel
theorem dX6_remove_51 : decode cX6_remove 51 = .ok (.invokevirtual 111, 3) := by decide +kernel
theorem dX6_remove_54 : decode cX6_remove 54 = .ok (.aload_n 0, 1) := by decide +kernel
theorem dX6_remove_55 : decode cX6_remove 55 = .ok (.getfield 16, 3) := by decide +kernel
theorem dX6_remove_58 : decode cX6_remove 58 = .ok (.iload_n 1, 1) := by decide +kernel
theorem dX6_remove_59 : decode cX6_remove 59 = .ok (.iload_n 2, 1) := by decide +kernel
theorem dX6_remove_60 : decode cX6_remove 60 = .ok (.invokestatic 87, 3) := by decide +kernel
theorem dX6_remove_63 : decode cX6_remove 63 = .ok (.iconst 0, 1) := by decide +kernel
theorem dX6_remove_64 : decode cX6_remove 64 = .ok (.iastore, 1) := by decide +kernel
theorem dX6_remove_65 : decode cX6_remove 65 = .ok (.return_, 1) := by decide +kernel
set_option maxRecDepth 20000 in
theorem ggX6_leaving_X6_at : GoodIn wsX6_leaving wsX6_at := goodIn_r _ [6] (by decide +kernel) (by decide +kernel)
set_option maxRecDepth 20000 in
theorem gX6_leaving_X6_at : GoodIn wsX6_leaving (va_wsS RX6 87 yX6_at wsX6_at) := goodIn_app (goodIn_of _ (by decide +kernel)) ggX6_leaving_X6_at
set_option maxRecDepth 20000 in
theorem ggX6_leaving_X6_linesIn : GoodIn wsX6_leaving wsX6_linesIn := goodIn_r _ [10, 1, 3, 4, 5, 6, 16, 17, 18, 19, 20, 21, 22, 23, 24, 25, 26, 27, 28, 29, 30, 31, 32, 33, 34, 35, 36, 37, 38, 39, 40, 41, 42, 43, 44] (by decide +kernel) (by decide +kernel)
set_option maxRecDepth 20000 in
theorem gX6_leaving_X6_linesIn : GoodIn wsX6_leaving (wsV RX6 104 RX6 yX6_linesIn wsX6_linesIn) := goodIn_app (goodIn_of _ (by decide +kernel)) ggX6_leaving_X6_linesIn
set_option maxRecDepth 20000 in
theorem ggX6_leaving_X6_lineBy : GoodIn wsX6_leaving wsX6_lineBy := goodIn_r _ [14, 1, 15, 3, 4, 5, 6, 16, 17, 18, 19, 20, 21, 22, 23, 24, 25, 26, 27, 28, 29, 30, 31, 32, 33, 34, 35, 36, 37, 38, 39, 40, 41, 42, 43, 44] (by decide +kernel) (by decide +kernel)
set_option maxRecDepth 20000 in
theorem gX6_leaving_X6_lineBy : GoodIn wsX6_leaving (wsV RX6 115 RX6 yX6_lineBy wsX6_lineBy) := goodIn_app (goodIn_of _ (by decide +kernel)) ggX6_leaving_X6_lineBy
theorem dX6_leaving_0 : decode cX6_leaving 0 = .ok (.aload_n 0, 1) := by decide +kernel
theorem dX6_leaving_1 : decode cX6_leaving 1 = .ok (.getfield 16, 3) := by decide +kernel
theorem dX6_leaving_4 : decode cX6_leaving 4 = .ok (.iload_n 1, 1) := by decide +kernel
theorem dX6_leaving_5 : decode cX6_leaving 5 = .ok (.iload_n 2, 1) := by decide +kernel
theorem dX6_leaving_6 : decode cX6_leaving 6 = .ok (.invokestatic 87, 3) := by decide +kernel
theorem dX6_leaving_9 : decode cX6_leaving 9 = .ok (.iaload, 1) := by decide +kernel
theorem dX6_leaving_10 : decode cX6_leaving 10 = .ok (.ifCond .ne 26, 3) := by decide +kernel
theorem dX6_leaving_13 : decode cX6_leaving 13 = .ok (.aload_n 0, 1) := by decide +kernel
theorem dX6_leaving_14 : decode cX6_leaving 14 = .ok (.iload_n 1, 1) := by decide +kernel
theorem dX6_leaving_15 : decode cX6_leaving 15 = .ok (.invokevirtual 104, 3) := by decide +kernel
theorem dX6_leaving_18 : decode cX6_leaving 18 = .ok (.aload_n 0, 1) := by decide +kernel
theorem dX6_leaving_19 : decode cX6_leaving 19 = .ok (.getfield 7, 3) := by decide +kernel
theorem dX6_leaving_22 : decode cX6_leaving 22 = .ok (.iload_n 1, 1) := by decide +kernel
theorem dX6_leaving_23 : decode cX6_leaving 23 = .ok (.iaload, 1) := by decide +kernel
theorem dX6_leaving_24 : decode cX6_leaving 24 = .ok (.if_icmp .ne 12, 3) := by decide +kernel
theorem dX6_leaving_27 : decode cX6_leaving 27 = .ok (.aload_n 0, 1) := by decide +kernel
theorem dX6_leaving_28 : decode cX6_leaving 28 = .ok (.iload_n 1, 1) := by decide +kernel
theorem dX6_leaving_29 : decode cX6_leaving 29 = .ok (.iconst 0, 1) := by decide +kernel
theorem dX6_leaving_30 : decode cX6_leaving 30 = .ok (.invokevirtual 115, 3) := by decide +kernel
theorem dX6_leaving_33 : decode cX6_leaving 33 = .ok (.goto 4, 3) := by decide +kernel
theorem dX6_leaving_36 : decode cX6_leaving 36 = .ok (.iconst (-1), 1) := by decide +kernel
theorem dX6_leaving_37 : decode cX6_leaving 37 = .ok (.ireturn, 1) := by decide +kernel
set_option maxRecDepth 20000 in
theorem ggX6_canStart_X6_leaving : GoodIn wsX6_canStart wsX6_leaving := goodIn_r _ [5, 6, 7, 8, 9, 4, 10, 11, 12, 13, 14, 15, 16, 17, 18, 19, 30, 31, 32, 33, 34, 35, 36, 37, 38, 39, 40, 41, 42, 43, 44, 45, 46, 47, 48, 49, 50, 51, 52, 53, 54, 55, 56, 57, 58] (by decide +kernel) (by decide +kernel)
set_option maxRecDepth 20000 in
theorem gX6_canStart_X6_leaving : GoodIn wsX6_canStart (wsV RX6 118 RX6 yX6_leaving wsX6_leaving) := goodIn_app (goodIn_of _ (by decide +kernel)) ggX6_canStart_X6_leaving
set_option maxRecDepth 20000 in
theorem ggX6_canStart_X6_canRemove : GoodIn wsX6_canStart wsX6_canRemove := goodIn_r _ [23, 6, 24, 8, 9, 4, 10, 25, 26, 27, 28, 29, 30, 31, 32, 33, 34, 35, 36, 37, 38, 39, 40, 41, 42, 43, 44, 45, 46, 47, 48, 49, 50, 51, 52, 53, 54, 55, 56, 57, 58] (by decide +kernel) (by decide +kernel)
set_option maxRecDepth 20000 in
theorem gX6_canStart_X6_canRemove : GoodIn wsX6_canStart (wsV RX6 121 RX6 yX6_canRemove wsX6_canRemove) := goodIn_app (goodIn_of _ (by decide +kernel)) ggX6_canStart_X6_canRemove
theorem dX6_canStart_0 : decode cX6_canStart 0 = .ok (.aload_n 0, 1) := by decide +kernel
theorem dX6_canStart_1 : decode cX6_canStart 1 = .ok (.iload_n 1, 1) := by decide +kernel
theorem dX6_canStart_2 : decode cX6_canStart 2 = .ok (.iload_n 2, 1) := by decide +kernel
theorem dX6_canStart_3 : decode cX6_canStart 3 = .ok (.invokevirtual 118, 3) := by decide +kernel
theorem dX6_canStart_6 : decode cX6_canStart 6 = .ok (.iconst (-1), 1) := by decide +kernel
theorem dX6_canStart_7 : decode cX6_canStart 7 = .ok (.if_icmp .eq 17, 3) := by decide +kernel
theorem dX6_canStart_10 : decode cX6_canStart 10 = .ok (.aload_n 0, 1) := by decide +kernel
theorem dX6_canStart_11 : decode cX6_canStart 11 = .ok (.iload_n 1, 1) := by decide +kernel
theorem dX6_canStart_12 : decode cX6_canStart 12 = .ok (.aload_n 0, 1) := by decide +kernel
theorem dX6_canStart_13 : decode cX6_canStart 13 = .ok (.iload_n 1, 1) := by decide +kernel
theorem dX6_canStart_14 : decode cX6_canStart 14 = .ok (.iload_n 2, 1) := by decide +kernel
theorem dX6_canStart_15 : decode cX6_canStart 15 = .ok (.invokevirtual 118, 3) := by decide +kernel
theorem dX6_canStart_18 : decode cX6_canStart 18 = .ok (.invokevirtual 121, 3) := by decide +kernel
theorem dX6_canStart_21 : decode cX6_canStart 21 = .ok (.ifCond .eq 7, 3) := by decide +kernel
theorem dX6_canStart_24 : decode cX6_canStart 24 = .ok (.iconst 1, 1) := by decide +kernel
theorem dX6_canStart_25 : decode cX6_canStart 25 = .ok (.goto 4, 3) := by decide +kernel
theorem dX6_canStart_28 : decode cX6_canStart 28 = .ok (.iconst 0, 1) := by decide +kernel
theorem dX6_canStart_29 : decode cX6_canStart 29 = .ok (.ireturn, 1) := by decide +kernel
set_option maxRecDepth 20000 in
theorem ggX6_start_X6_leaving : GoodIn wsX6_start wsX6_leaving := goodIn_r _ [13, 14, 15, 16, 17, 12, 18, 19, 20, 21, 22, 23, 24, 25, 26, 27, 40, 41, 42, 43, 44, 45, 46, 47, 48, 49, 50, 51, 52, 53, 54, 55, 56, 57, 58, 59, 60, 61, 62, 63, 64, 65, 66, 67, 68] (by decide +kernel) (by decide +kernel)
set_option maxRecDepth 20000 in
theorem gX6_start_X6_leaving : GoodIn wsX6_start (wsV RX6 118 RX6 yX6_leaving wsX6_leaving) := goodIn_app (goodIn_of _ (by decide +kernel)) ggX6_start_X6_leaving
set_option maxRecDepth 20000 in
theorem ggX6_start_X6_remove : GoodIn wsX6_start wsX6_remove := goodIn_r _ [31, 14, 32, 33, 16, 17, 12, 18, 34, 35, 36, 37, 38, 39, 40, 41, 42, 43, 44, 45, 46, 47, 48, 49, 50, 51, 52, 53, 54, 55, 56, 57, 58, 59, 60, 61, 62, 63, 64, 65, 66, 67, 68] (by decide +kernel) (by decide +kernel)
set_option maxRecDepth 20000 in
theorem gX6_start_X6_remove : GoodIn wsX6_start (wsV RX6 125 RX6 yX6_remove wsX6_remove) := goodIn_app (goodIn_of _ (by decide +kernel)) ggX6_start_X6_remove
set_option maxRecDepth 20000 in
theorem ggX6_start_X6_send : GoodIn wsX6_start wsX6_send := goodIn_r _ [37, 38, 39, 40, 41, 42, 43, 44, 45, 46, 47, 48, 49, 50, 51, 52, 53, 54, 55, 56, 57, 58, 59, 60, 61, 62, 63, 64, 65, 66, 67, 68] (by decide +kernel) (by decide +kernel)
set_option maxRecDepth 20000 in
theorem gX6_start_X6_send : GoodIn wsX6_start (wsV RX6 111 RX6 yX6_send wsX6_send) := goodIn_app (goodIn_of _ (by decide +kernel)) ggX6_start_X6_send
theorem dX6_start_0 : decode cX6_start 0 = .ok (.aload_n 0, 1) := by decide +kernel
theorem dX6_start_1 : decode cX6_start 1 = .ok (.iload_n 1, 1) := by decide +kernel
theorem dX6_start_2 : decode cX6_start 2 = .ok (.iload_n 2, 1) := by decide +kernel
theorem dX6_start_3 : decode cX6_start 3 = .ok (.invokevirtual 118, 3) := by decide +kernel
theorem dX6_start_6 : decode cX6_start 6 = .ok (.iconst (-1), 1) := by decide +kernel
theorem dX6_start_7 : decode cX6_start 7 = .ok (.if_icmp .eq 14, 3) := by decide +kernel
theorem dX6_start_10 : decode cX6_start 10 = .ok (.aload_n 0, 1) := by decide +kernel
theorem dX6_start_11 : decode cX6_start 11 = .ok (.iload_n 1, 1) := by decide +kernel
theorem dX6_start_12 : decode cX6_start 12 = .ok (.aload_n 0, 1) := by decide +kernel
theorem dX6_start_13 : decode cX6_start 13 = .ok (.iload_n 1, 1) := by decide +kernel
theorem dX6_start_14 : decode cX6_start 14 = .ok (.iload_n 2, 1) := by decide +kernel
theorem dX6_start_15 : decode cX6_start 15 = .ok (.invokevirtual 118, 3) := by decide +kernel
theorem dX6_start_18 : decode cX6_start 18 = .ok (.invokevirtual 125, 3) := by decide +kernel
theorem dX6_start_21 : decode cX6_start 21 = .ok (.aload_n 0, 1) := by decide +kernel
theorem dX6_start_22 : decode cX6_start 22 = .ok (.getfield 31, 3) := by decide +kernel
theorem dX6_start_25 : decode cX6_start 25 = .ok (.iload_n 1, 1) := by decide +kernel
theorem dX6_start_26 : decode cX6_start 26 = .ok (.dup2, 1) := by decide +kernel
theorem dX6_start_27 : decode cX6_start 27 = .ok (.iaload, 1) := by decide +kernel
theorem dX6_start_28 : decode cX6_start 28 = .ok (.iconst 1, 1) := by decide +kernel
theorem dX6_start_29 : decode cX6_start 29 = .ok (.iadd, 1) := by decide +kernel
theorem dX6_start_30 : decode cX6_start 30 = .ok (.iastore, 1) := by decide +kernel
theorem dX6_start_31 : decode cX6_start 31 = .ok (.aload_n 0, 1) := by decide +kernel
theorem dX6_start_32 : decode cX6_start 32 = .ok (.getfield 37, 3) := by decide +kernel
theorem dX6_start_35 : decode cX6_start 35 = .ok (.iload_n 1, 1) := by decide +kernel
theorem dX6_start_36 : decode cX6_start 36 = .ok (.iload_n 2, 1) := by decide +kernel
theorem dX6_start_37 : decode cX6_start 37 = .ok (.iastore, 1) := by decide +kernel
theorem dX6_start_38 : decode cX6_start 38 = .ok (.aload_n 0, 1) := by decide +kernel
theorem dX6_start_39 : decode cX6_start 39 = .ok (.getfield 40, 3) := by decide +kernel
theorem dX6_start_42 : decode cX6_start 42 = .ok (.iload_n 1, 1) := by decide +kernel
theorem dX6_start_43 : decode cX6_start 43 = .ok (.iload_n 3, 1) := by decide +kernel
theorem dX6_start_44 : decode cX6_start 44 = .ok (.bastore, 1) := by decide +kernel
theorem dX6_start_45 : decode cX6_start 45 = .ok (.aload_n 0, 1) := by decide +kernel
theorem dX6_start_46 : decode cX6_start 46 = .ok (.getfield 44, 3) := by decide +kernel
theorem dX6_start_49 : decode cX6_start 49 = .ok (.iload_n 1, 1) := by decide +kernel
theorem dX6_start_50 : decode cX6_start 50 = .ok (.iload 4, 2) := by decide +kernel
theorem dX6_start_52 : decode cX6_start 52 = .ok (.iastore, 1) := by decide +kernel
theorem dX6_start_53 : decode cX6_start 53 = .ok (.aload_n 0, 1) := by decide +kernel
theorem dX6_start_54 : decode cX6_start 54 = .ok (.getfield 47, 3) := by decide +kernel
theorem dX6_start_57 : decode cX6_start 57 = .ok (.iload_n 1, 1) := by decide +kernel
theorem dX6_start_58 : decode cX6_start 58 = .ok (.iconst 0, 1) := by decide +kernel
theorem dX6_start_59 : decode cX6_start 59 = .ok (.bastore, 1) := by decide +kernel
theorem dX6_start_60 : decode cX6_start 60 = .ok (.aload_n 0, 1) := by decide +kernel
theorem dX6_start_61 : decode cX6_start 61 = .ok (.getfield 50, 3) := by decide +kernel
theorem dX6_start_64 : decode cX6_start 64 = .ok (.iload_n 1, 1) := by decide +kernel
theorem dX6_start_65 : decode cX6_start 65 = .ok (.iconst 0, 1) := by decide +kernel
theorem dX6_start_66 : decode cX6_start 66 = .ok (.iastore, 1) := by decide +kernel
theorem dX6_start_67 : decode cX6_start 67 = .ok (.aload_n 0, 1) := by decide +kernel
theorem dX6_start_68 : decode cX6_start 68 = .ok (.getfield 53, 3) := by decide +kernel
theorem dX6_start_71 : decode cX6_start 71 = .ok (.iload_n 1, 1) := by decide +kernel
theorem dX6_start_72 : decode cX6_start 72 = .ok (.iconst 0, 1) := by decide +kernel
theorem dX6_start_73 : decode cX6_start 73 = .ok (.iastore, 1) := by decide +kernel
theorem dX6_start_74 : decode cX6_start 74 = .ok (.aload_n 0, 1) := by decide +kernel
theorem dX6_start_75 : decode cX6_start 75 = .ok (.getfield 56, 3) := by decide +kernel
theorem dX6_start_78 : decode cX6_start 78 = .ok (.iload_n 1, 1) := by decide +kernel
theorem dX6_start_79 : decode cX6_start 79 = .ok (.iconst 0, 1) := by decide +kernel
theorem dX6_start_80 : decode cX6_start 80 = .ok (.iastore, 1) := by decide +kernel
theorem dX6_start_81 : decode cX6_start 81 = .ok (.aload_n 0, 1) := by decide +kernel
theorem dX6_start_82 : decode cX6_start 82 = .ok (.iload_n 3, 1) := by decide +kernel
theorem dX6_start_83 : decode cX6_start 83 = .ok (.ifCond .eq 7, 3) := by decide +kernel
theorem dX6_start_86 : decode cX6_start 86 = .ok (.iconst 2, 1) := by decide +kernel
theorem dX6_start_87 : decode cX6_start 87 = .ok (.goto 4, 3) := by decide +kernel
theorem dX6_start_90 : decode cX6_start 90 = .ok (.iconst 1, 1) := by decide +kernel
theorem dX6_start_91 : decode cX6_start 91 = .ok (.iload_n 2, 1) := by decide +kernel
theorem dX6_start_92 : decode cX6_start 92 = .ok (.iload_n 1, 1) := by decide +kernel
theorem dX6_start_93 : decode cX6_start 93 = .ok (.iconst (-1), 1) := by decide +kernel
theorem dX6_start_94 : decode cX6_start 94 = .ok (.iconst 0, 1) := by decide +kernel
theorem dX6_start_95 : decode cX6_start 95 = .ok (.iconst 0, 1) := by decide +kernel
theorem dX6_start_96 : decode cX6_start 96 = .ok (.iconst (-1), 1) := by decide +kernel
theorem dX6_start_97 : decode cX6_start 97 = .ok (.invokevirtual 111, 3) := by decide +kernel
theorem dX6_start_100 : decode cX6_start 100 = .ok (.return_, 1) := by decide +kernel
set_option maxRecDepth 20000 in
theorem ggX6_read_X6_isCache : GoodIn wsX6_read wsX6_isCache := goodIn_r _ [10] (by decide +kernel) (by decide +kernel)
set_option maxRecDepth 20000 in
theorem gX6_read_X6_isCache : GoodIn wsX6_read (va_wsS RX6 97 yX6_isCache wsX6_isCache) := goodIn_app (goodIn_of _ (by decide +kernel)) ggX6_read_X6_isCache
set_option maxRecDepth 20000 in
theorem ggX6_read_X6_isLine : GoodIn wsX6_read wsX6_isLine := goodIn_r _ [13] (by decide +kernel) (by decide +kernel)
set_option maxRecDepth 20000 in
theorem gX6_read_X6_isLine : GoodIn wsX6_read (va_wsS RX6 129 yX6_isLine wsX6_isLine) := goodIn_app (goodIn_of _ (by decide +kernel)) ggX6_read_X6_isLine
set_option maxRecDepth 20000 in
theorem ggX6_read_X6_fail : GoodIn wsX6_read wsX6_fail := goodIn_r _ [17, 1, 74, 75, 76, 77, 78, 79, 80, 81, 82, 83, 84, 85, 86, 87, 88, 89, 90, 91, 92, 93, 94, 95, 96, 97, 98, 99, 100, 101, 102] (by decide +kernel) (by decide +kernel)
set_option maxRecDepth 20000 in
theorem gX6_read_X6_fail : GoodIn wsX6_read (wsV RX6 132 RX6 yX6_fail wsX6_fail) := goodIn_app (goodIn_of _ (by decide +kernel)) ggX6_read_X6_fail
set_option maxRecDepth 20000 in
theorem ggX6_read_X6_at : GoodIn wsX6_read wsX6_at := goodIn_r _ [20] (by decide +kernel) (by decide +kernel)
set_option maxRecDepth 20000 in
theorem gX6_read_X6_at : GoodIn wsX6_read (va_wsS RX6 87 yX6_at wsX6_at) := goodIn_app (goodIn_of _ (by decide +kernel)) ggX6_read_X6_at
set_option maxRecDepth 20000 in
theorem ggX6_read_X6_use : GoodIn wsX6_read wsX6_use := goodIn_r _ [24, 25, 26, 18, 19, 9, 20, 74, 75, 76, 77, 78, 79, 80, 81, 82, 83, 84, 85, 86, 87, 88, 89, 90, 91, 92, 93, 94, 95, 96, 97, 98, 99, 100, 101, 102] (by decide +kernel) (by decide +kernel)
set_option maxRecDepth 20000 in
theorem gX6_read_X6_use : GoodIn wsX6_read (wsV RX6 135 RX6 yX6_use wsX6_use) := goodIn_app (goodIn_of _ (by decide +kernel)) ggX6_read_X6_use
set_option maxRecDepth 20000 in
theorem ggX6_read_X6_canStart : GoodIn wsX6_read wsX6_canStart := goodIn_r _ [30, 31, 32, 33, 9, 34, 4, 35, 18, 19, 20, 36, 37, 38, 39, 40, 41, 42, 43, 26, 44, 45, 46, 47, 48, 49, 50, 51, 52, 3, 74, 75, 76, 77, 78, 79, 80, 81, 82, 83, 84, 85, 86, 87, 88, 89, 90, 91, 92, 93, 94, 95, 96, 97, 98, 99, 100, 101, 102] (by decide +kernel) (by decide +kernel)
set_option maxRecDepth 20000 in
theorem gX6_read_X6_canStart : GoodIn wsX6_read (wsV RX6 138 RX6 yX6_canStart wsX6_canStart) := goodIn_app (goodIn_of _ (by decide +kernel)) ggX6_read_X6_canStart
set_option maxRecDepth 20000 in
theorem ggX6_read_X6_start : GoodIn wsX6_read wsX6_start := goodIn_r _ [56, 57, 2, 58, 59, 60, 61, 62, 63, 31, 32, 33, 9, 34, 4, 35, 18, 19, 20, 36, 37, 38, 39, 40, 41, 42, 43, 26, 64, 65, 66, 67, 3, 6, 68, 69, 70, 71, 72, 73, 74, 75, 76, 77, 78, 79, 80, 81, 82, 83, 84, 85, 86, 87, 88, 89, 90, 91, 92, 93, 94, 95, 96, 97, 98, 99, 100, 101, 102] (by decide +kernel) (by decide +kernel)
set_option maxRecDepth 20000 in
theorem gX6_read_X6_start : GoodIn wsX6_read (wsV RX6 141 RX6 yX6_start wsX6_start) := goodIn_app (goodIn_of _ (by decide +kernel)) ggX6_read_X6_start
theorem dX6_read_0 : decode cX6_read 0 = .ok (.aload_n 0, 1) := by decide +kernel
theorem dX6_read_1 : decode cX6_read 1 = .ok (.iconst 0, 1) := by decide +kernel
theorem dX6_read_2 : decode cX6_read 2 = .ok (.putfield 83, 3) := by decide +kernel
theorem dX6_read_5 : decode cX6_read 5 = .ok (.iload_n 1, 1) := by decide +kernel
theorem dX6_read_6 : decode cX6_read 6 = .ok (.invokestatic 97, 3) := by decide +kernel
theorem dX6_read_9 : decode cX6_read 9 = .ok (.ifCond .eq 10, 3) := by decide +kernel
theorem dX6_read_12 : decode cX6_read 12 = .ok (.iload_n 2, 1) := by decide +kernel
theorem dX6_read_13 : decode cX6_read 13 = .ok (.invokestatic 129, 3) := by decide +kernel
theorem dX6_read_16 : decode cX6_read 16 = .ok (.ifCond .ne 9, 3) := by decide +kernel
theorem dX6_read_19 : decode cX6_read 19 = .ok (.aload_n 0, 1) := by decide +kernel
theorem dX6_read_20 : decode cX6_read 20 = .ok (.iconst 1, 1) := by decide +kernel
theorem dX6_read_21 : decode cX6_read 21 = .ok (.invokevirtual 132, 3) := by decide +kernel
theorem dX6_read_24 : decode cX6_read 24 = .ok (.ireturn, 1) := by decide +kernel
theorem dX6_read_25 : decode cX6_read 25 = .ok (.aload_n 0, 1) := by decide +kernel
theorem dX6_read_26 : decode cX6_read 26 = .ok (.getfield 37, 3) := by decide +kernel
theorem dX6_read_29 : decode cX6_read 29 = .ok (.iload_n 1, 1) := by decide +kernel
theorem dX6_read_30 : decode cX6_read 30 = .ok (.iaload, 1) := by decide +kernel
theorem dX6_read_31 : decode cX6_read 31 = .ok (.iconst (-1), 1) := by decide +kernel
theorem dX6_read_32 : decode cX6_read 32 = .ok (.if_icmp .ne 16, 3) := by decide +kernel
theorem dX6_read_35 : decode cX6_read 35 = .ok (.aload_n 0, 1) := by decide +kernel
theorem dX6_read_36 : decode cX6_read 36 = .ok (.getfield 25, 3) := by decide +kernel
theorem dX6_read_39 : decode cX6_read 39 = .ok (.iload_n 1, 1) := by decide +kernel
theorem dX6_read_40 : decode cX6_read 40 = .ok (.iload_n 2, 1) := by decide +kernel
theorem dX6_read_41 : decode cX6_read 41 = .ok (.invokestatic 87, 3) := by decide +kernel
theorem dX6_read_44 : decode cX6_read 44 = .ok (.iaload, 1) := by decide +kernel
theorem dX6_read_45 : decode cX6_read 45 = .ok (.ifCond .lt 9, 3) := by decide +kernel
theorem dX6_read_48 : decode cX6_read 48 = .ok (.aload_n 0, 1) := by decide +kernel
theorem dX6_read_49 : decode cX6_read 49 = .ok (.iconst 2, 1) := by decide +kernel
theorem dX6_read_50 : decode cX6_read 50 = .ok (.invokevirtual 132, 3) := by decide +kernel
theorem dX6_read_53 : decode cX6_read 53 = .ok (.ireturn, 1) := by decide +kernel
theorem dX6_read_54 : decode cX6_read 54 = .ok (.aload_n 0, 1) := by decide +kernel
theorem dX6_read_55 : decode cX6_read 55 = .ok (.getfield 16, 3) := by decide +kernel
theorem dX6_read_58 : decode cX6_read 58 = .ok (.iload_n 1, 1) := by decide +kernel
theorem dX6_read_59 : decode cX6_read 59 = .ok (.iload_n 2, 1) := by decide +kernel
theorem dX6_read_60 : decode cX6_read 60 = .ok (.invokestatic 87, 3) := by decide +kernel
theorem dX6_read_63 : decode cX6_read 63 = .ok (.iaload, 1) := by decide +kernel
theorem dX6_read_64 : decode cX6_read 64 = .ok (.ifCond .le 30, 3) := by decide +kernel
theorem dX6_read_67 : decode cX6_read 67 = .ok (.aload_n 0, 1) := by decide +kernel
theorem dX6_read_68 : decode cX6_read 68 = .ok (.getfield 28, 3) := by decide +kernel
theorem dX6_read_71 : decode cX6_read 71 = .ok (.iload_n 1, 1) := by decide +kernel
theorem dX6_read_72 : decode cX6_read 72 = .ok (.dup2, 1) := by decide +kernel
theorem dX6_read_73 : decode cX6_read 73 = .ok (.iaload, 1) := by decide +kernel
theorem dX6_read_74 : decode cX6_read 74 = .ok (.iconst 1, 1) := by decide +kernel
theorem dX6_read_75 : decode cX6_read 75 = .ok (.iadd, 1) := by decide +kernel
theorem dX6_read_76 : decode cX6_read 76 = .ok (.iastore, 1) := by decide +kernel
theorem dX6_read_77 : decode cX6_read 77 = .ok (.aload_n 0, 1) := by decide +kernel
theorem dX6_read_78 : decode cX6_read 78 = .ok (.iload_n 1, 1) := by decide +kernel
theorem dX6_read_79 : decode cX6_read 79 = .ok (.iload_n 2, 1) := by decide +kernel
theorem dX6_read_80 : decode cX6_read 80 = .ok (.invokevirtual 135, 3) := by decide +kernel
theorem dX6_read_83 : decode cX6_read 83 = .ok (.aload_n 0, 1) := by decide +kernel
theorem dX6_read_84 : decode cX6_read 84 = .ok (.getfield 19, 3) := by decide +kernel
theorem dX6_read_87 : decode cX6_read 87 = .ok (.iload_n 1, 1) := by decide +kernel
theorem dX6_read_88 : decode cX6_read 88 = .ok (.iload_n 2, 1) := by decide +kernel
theorem dX6_read_89 : decode cX6_read 89 = .ok (.invokestatic 87, 3) := by decide +kernel
theorem dX6_read_92 : decode cX6_read 92 = .ok (.iaload, 1) := by decide +kernel
theorem dX6_read_93 : decode cX6_read 93 = .ok (.ireturn, 1) := by decide +kernel
theorem dX6_read_94 : decode cX6_read 94 = .ok (.aload_n 0, 1) := by decide +kernel
theorem dX6_read_95 : decode cX6_read 95 = .ok (.iload_n 1, 1) := by decide +kernel
theorem dX6_read_96 : decode cX6_read 96 = .ok (.iload_n 2, 1) := by decide +kernel
theorem dX6_read_97 : decode cX6_read 97 = .ok (.invokevirtual 138, 3) := by decide +kernel
theorem dX6_read_100 : decode cX6_read 100 = .ok (.ifCond .ne 9, 3) := by decide +kernel
theorem dX6_read_103 : decode cX6_read 103 = .ok (.aload_n 0, 1) := by decide +kernel
theorem dX6_read_104 : decode cX6_read 104 = .ok (.iconst 2, 1) := by decide +kernel
theorem dX6_read_105 : decode cX6_read 105 = .ok (.invokevirtual 132, 3) := by decide +kernel
theorem dX6_read_108 : decode cX6_read 108 = .ok (.ireturn, 1) := by decide +kernel
theorem dX6_read_109 : decode cX6_read 109 = .ok (.aload_n 0, 1) := by decide +kernel
theorem dX6_read_110 : decode cX6_read 110 = .ok (.iload_n 1, 1) := by decide +kernel
theorem dX6_read_111 : decode cX6_read 111 = .ok (.iload_n 2, 1) := by decide +kernel
theorem dX6_read_112 : decode cX6_read 112 = .ok (.iconst 0, 1) := by decide +kernel
theorem dX6_read_113 : decode cX6_read 113 = .ok (.iconst 0, 1) := by decide +kernel
theorem dX6_read_114 : decode cX6_read 114 = .ok (.invokevirtual 141, 3) := by decide +kernel
theorem dX6_read_117 : decode cX6_read 117 = .ok (.iconst (-1), 1) := by decide +kernel
theorem dX6_read_118 : decode cX6_read 118 = .ok (.ireturn, 1) := by decide +kernel
set_option maxRecDepth 20000 in
theorem ggX6_write_X6_isCache : GoodIn wsX6_write wsX6_isCache := goodIn_r _ [10] (by decide +kernel) (by decide +kernel)
set_option maxRecDepth 20000 in
theorem gX6_write_X6_isCache : GoodIn wsX6_write (va_wsS RX6 97 yX6_isCache wsX6_isCache) := goodIn_app (goodIn_of _ (by decide +kernel)) ggX6_write_X6_isCache
set_option maxRecDepth 20000 in
theorem ggX6_write_X6_isLine : GoodIn wsX6_write wsX6_isLine := goodIn_r _ [13] (by decide +kernel) (by decide +kernel)
set_option maxRecDepth 20000 in
theorem gX6_write_X6_isLine : GoodIn wsX6_write (va_wsS RX6 129 yX6_isLine wsX6_isLine) := goodIn_app (goodIn_of _ (by decide +kernel)) ggX6_write_X6_isLine
set_option maxRecDepth 20000 in
theorem ggX6_write_X6_failed : GoodIn wsX6_write wsX6_failed := goodIn_r _ [17, 1, 74, 75, 76, 77, 78, 79, 80, 81, 82, 83, 84, 85, 86, 87, 88, 89, 90, 91, 92, 93, 94, 95, 96, 97, 98, 99, 100, 101, 102] (by decide +kernel) (by decide +kernel)
set_option maxRecDepth 20000 in
theorem gX6_write_X6_failed : GoodIn wsX6_write (wsV RX6 101 RX6 yX6_failed wsX6_failed) := goodIn_app (goodIn_of _ (by decide +kernel)) ggX6_write_X6_failed
set_option maxRecDepth 20000 in
theorem ggX6_write_X6_at : GoodIn wsX6_write wsX6_at := goodIn_r _ [20] (by decide +kernel) (by decide +kernel)
set_option maxRecDepth 20000 in
theorem gX6_write_X6_at : GoodIn wsX6_write (va_wsS RX6 87 yX6_at wsX6_at) := goodIn_app (goodIn_of _ (by decide +kernel)) ggX6_write_X6_at
set_option maxRecDepth 20000 in
theorem ggX6_write_X6_use : GoodIn wsX6_write wsX6_use := goodIn_r _ [24, 25, 26, 18, 19, 9, 20, 74, 75, 76, 77, 78, 79, 80, 81, 82, 83, 84, 85, 86, 87, 88, 89, 90, 91, 92, 93, 94, 95, 96, 97, 98, 99, 100, 101, 102] (by decide +kernel) (by decide +kernel)
set_option maxRecDepth 20000 in
theorem gX6_write_X6_use : GoodIn wsX6_write (wsV RX6 135 RX6 yX6_use wsX6_use) := goodIn_app (goodIn_of _ (by decide +kernel)) ggX6_write_X6_use
set_option maxRecDepth 20000 in
theorem ggX6_write_X6_canStart : GoodIn wsX6_write wsX6_canStart := goodIn_r _ [30, 31, 32, 33, 9, 34, 4, 35, 18, 19, 20, 36, 37, 38, 39, 40, 41, 42, 43, 26, 44, 45, 46, 47, 48, 49, 50, 51, 52, 3, 74, 75, 76, 77, 78, 79, 80, 81, 82, 83, 84, 85, 86, 87, 88, 89, 90, 91, 92, 93, 94, 95, 96, 97, 98, 99, 100, 101, 102] (by decide +kernel) (by decide +kernel)
set_option maxRecDepth 20000 in
theorem gX6_write_X6_canStart : GoodIn wsX6_write (wsV RX6 138 RX6 yX6_canStart wsX6_canStart) := goodIn_app (goodIn_of _ (by decide +kernel)) ggX6_write_X6_canStart
set_option maxRecDepth 20000 in
theorem ggX6_write_X6_start : GoodIn wsX6_write wsX6_start := goodIn_r _ [56, 57, 2, 58, 59, 60, 61, 62, 63, 31, 32, 33, 9, 34, 4, 35, 18, 19, 20, 36, 37, 38, 39, 40, 41, 42, 43, 26, 64, 65, 66, 67, 3, 6, 68, 69, 70, 71, 72, 73, 74, 75, 76, 77, 78, 79, 80, 81, 82, 83, 84, 85, 86, 87, 88, 89, 90, 91, 92, 93, 94, 95, 96, 97, 98, 99, 100, 101, 102] (by decide +kernel) (by decide +kernel)
set_option maxRecDepth 20000 in
theorem gX6_write_X6_start : GoodIn wsX6_write (wsV RX6 141 RX6 yX6_start wsX6_start) := goodIn_app (goodIn_of _ (by decide +kernel)) ggX6_write_X6_start
theorem dX6_write_0 : decode cX6_write 0 = .ok (.aload_n 0, 1) := by decide +kernel
theorem dX6_write_1 : decode cX6_write 1 = .ok (.iconst 0, 1) := by decide +kernel
theorem dX6_write_2 : decode cX6_write 2 = .ok (.putfield 83, 3) := by decide +kernel
theorem dX6_write_5 : decode cX6_write 5 = .ok (.iload_n 1, 1) := by decide +kernel
theorem dX6_write_6 : decode cX6_write 6 = .ok (.invokestatic 97, 3) := by decide +kernel
theorem dX6_write_9 : decode cX6_write 9 = .ok (.ifCond .eq 10, 3) := by decide +kernel
theorem dX6_write_12 : decode cX6_write 12 = .ok (.iload_n 2, 1) := by decide +kernel
theorem dX6_write_13 : decode cX6_write 13 = .ok (.invokestatic 129, 3) := by decide +kernel
theorem dX6_write_16 : decode cX6_write 16 = .ok (.ifCond .ne 9, 3) := by decide +kernel
theorem dX6_write_19 : decode cX6_write 19 = .ok (.aload_n 0, 1) := by decide +kernel
theorem dX6_write_20 : decode cX6_write 20 = .ok (.iconst 1, 1) := by decide +kernel
theorem dX6_write_21 : decode cX6_write 21 = .ok (.invokevirtual 101, 3) := by decide +kernel
theorem dX6_write_24 : decode cX6_write 24 = .ok (.ireturn, 1) := by decide +kernel
theorem dX6_write_25 : decode cX6_write 25 = .ok (.iload_n 3, 1) := by decide +kernel
theorem dX6_write_26 : decode cX6_write 26 = .ok (.ifCond .lt 10, 3) := by decide +kernel
theorem dX6_write_29 : decode cX6_write 29 = .ok (.iload_n 3, 1) := by decide +kernel
theorem dX6_write_30 : decode cX6_write 30 = .ok (.sipush 9999, 3) := by decide +kernel
theorem dX6_write_33 : decode cX6_write 33 = .ok (.if_icmp .le 9, 3) := by decide +kernel
theorem dX6_write_36 : decode cX6_write 36 = .ok (.aload_n 0, 1) := by decide +kernel
theorem dX6_write_37 : decode cX6_write 37 = .ok (.iconst 2, 1) := by decide +kernel
theorem dX6_write_38 : decode cX6_write 38 = .ok (.invokevirtual 101, 3) := by decide +kernel
theorem dX6_write_41 : decode cX6_write 41 = .ok (.ireturn, 1) := by decide +kernel
theorem dX6_write_42 : decode cX6_write 42 = .ok (.aload_n 0, 1) := by decide +kernel
theorem dX6_write_43 : decode cX6_write 43 = .ok (.getfield 37, 3) := by decide +kernel
theorem dX6_write_46 : decode cX6_write 46 = .ok (.iload_n 1, 1) := by decide +kernel
theorem dX6_write_47 : decode cX6_write 47 = .ok (.iaload, 1) := by decide +kernel
theorem dX6_write_48 : decode cX6_write 48 = .ok (.iconst (-1), 1) := by decide +kernel
theorem dX6_write_49 : decode cX6_write 49 = .ok (.if_icmp .ne 16, 3) := by decide +kernel
theorem dX6_write_52 : decode cX6_write 52 = .ok (.aload_n 0, 1) := by decide +kernel
theorem dX6_write_53 : decode cX6_write 53 = .ok (.getfield 25, 3) := by decide +kernel
theorem dX6_write_56 : decode cX6_write 56 = .ok (.iload_n 1, 1) := by decide +kernel
theorem dX6_write_57 : decode cX6_write 57 = .ok (.iload_n 2, 1) := by decide +kernel
theorem dX6_write_58 : decode cX6_write 58 = .ok (.invokestatic 87, 3) := by decide +kernel
theorem dX6_write_61 : decode cX6_write 61 = .ok (.iaload, 1) := by decide +kernel
theorem dX6_write_62 : decode cX6_write 62 = .ok (.ifCond .lt 9, 3) := by decide +kernel
theorem dX6_write_65 : decode cX6_write 65 = .ok (.aload_n 0, 1) := by decide +kernel
theorem dX6_write_66 : decode cX6_write 66 = .ok (.iconst 3, 1) := by decide +kernel
theorem dX6_write_67 : decode cX6_write 67 = .ok (.invokevirtual 101, 3) := by decide +kernel
theorem dX6_write_70 : decode cX6_write 70 = .ok (.ireturn, 1) := by decide +kernel
theorem dX6_write_71 : decode cX6_write 71 = .ok (.aload_n 0, 1) := by decide +kernel
theorem dX6_write_72 : decode cX6_write 72 = .ok (.getfield 16, 3) := by decide +kernel
theorem dX6_write_75 : decode cX6_write 75 = .ok (.iload_n 1, 1) := by decide +kernel
theorem dX6_write_76 : decode cX6_write 76 = .ok (.iload_n 2, 1) := by decide +kernel
theorem dX6_write_77 : decode cX6_write 77 = .ok (.invokestatic 87, 3) := by decide +kernel
theorem dX6_write_80 : decode cX6_write 80 = .ok (.iaload, 1) := by decide +kernel
theorem dX6_write_81 : decode cX6_write 81 = .ok (.iconst 3, 1) := by decide +kernel
theorem dX6_write_82 : decode cX6_write 82 = .ok (.if_icmp .ne 32, 3) := by decide +kernel
theorem dX6_write_85 : decode cX6_write 85 = .ok (.aload_n 0, 1) := by decide +kernel
theorem dX6_write_86 : decode cX6_write 86 = .ok (.getfield 28, 3) := by decide +kernel
theorem dX6_write_89 : decode cX6_write 89 = .ok (.iload_n 1, 1) := by decide +kernel
theorem dX6_write_90 : decode cX6_write 90 = .ok (.dup2, 1) := by decide +kernel
theorem dX6_write_91 : decode cX6_write 91 = .ok (.iaload, 1) := by decide +kernel
theorem dX6_write_92 : decode cX6_write 92 = .ok (.iconst 1, 1) := by decide +kernel
theorem dX6_write_93 : decode cX6_write 93 = .ok (.iadd, 1) := by decide +kernel
theorem dX6_write_94 : decode cX6_write 94 = .ok (.iastore, 1) := by decide +kernel
theorem dX6_write_95 : decode cX6_write 95 = .ok (.aload_n 0, 1) := by decide +kernel
theorem dX6_write_96 : decode cX6_write 96 = .ok (.iload_n 1, 1) := by decide +kernel
theorem dX6_write_97 : decode cX6_write 97 = .ok (.iload_n 2, 1) := by decide +kernel
theorem dX6_write_98 : decode cX6_write 98 = .ok (.invokevirtual 135, 3) := by decide +kernel
theorem dX6_write_101 : decode cX6_write 101 = .ok (.aload_n 0, 1) := by decide +kernel
theorem dX6_write_102 : decode cX6_write 102 = .ok (.getfield 19, 3) := by decide +kernel
theorem dX6_write_105 : decode cX6_write 105 = .ok (.iload_n 1, 1) := by decide +kernel
theorem dX6_write_106 : decode cX6_write 106 = .ok (.iload_n 2, 1) := by decide +kernel
theorem dX6_write_107 : decode cX6_write 107 = .ok (.invokestatic 87, 3) := by decide +kernel
theorem dX6_write_110 : decode cX6_write 110 = .ok (.iload_n 3, 1) := by decide +kernel
theorem dX6_write_111 : decode cX6_write 111 = .ok (.iastore, 1) := by decide +kernel
theorem dX6_write_112 : decode cX6_write 112 = .ok (.iconst 1, 1) := by decide +kernel
theorem dX6_write_113 : decode cX6_write 113 = .ok (.ireturn, 1) := by decide +kernel
theorem dX6_write_114 : decode cX6_write 114 = .ok (.aload_n 0, 1) := by decide +kernel
theorem dX6_write_115 : decode cX6_write 115 = .ok (.iload_n 1, 1) := by decide +kernel
theorem dX6_write_116 : decode cX6_write 116 = .ok (.iload_n 2, 1) := by decide +kernel
theorem dX6_write_117 : decode cX6_write 117 = .ok (.invokevirtual 138, 3) := by decide +kernel
theorem dX6_write_120 : decode cX6_write 120 = .ok (.ifCond .ne 9, 3) := by decide +kernel
theorem dX6_write_123 : decode cX6_write 123 = .ok (.aload_n 0, 1) := by decide +kernel
theorem dX6_write_124 : decode cX6_write 124 = .ok (.iconst 3, 1) := by decide +kernel
theorem dX6_write_125 : decode cX6_write 125 = .ok (.invokevirtual 101, 3) := by decide +kernel
theorem dX6_write_128 : decode cX6_write 128 = .ok (.ireturn, 1) := by decide +kernel
theorem dX6_write_129 : decode cX6_write 129 = .ok (.aload_n 0, 1) := by decide +kernel
theorem dX6_write_130 : decode cX6_write 130 = .ok (.iload_n 1, 1) := by decide +kernel
theorem dX6_write_131 : decode cX6_write 131 = .ok (.iload_n 2, 1) := by decide +kernel
theorem dX6_write_132 : decode cX6_write 132 = .ok (.iconst 1, 1) := by decide +kernel
theorem dX6_write_133 : decode cX6_write 133 = .ok (.iload_n 3, 1) := by decide +kernel
theorem dX6_write_134 : decode cX6_write 134 = .ok (.invokevirtual 141, 3) := by decide +kernel
theorem dX6_write_137 : decode cX6_write 137 = .ok (.iconst 0, 1) := by decide +kernel
theorem dX6_write_138 : decode cX6_write 138 = .ok (.ireturn, 1) := by decide +kernel
set_option maxRecDepth 20000 in
theorem ggX6_evict_X6_isCache : GoodIn wsX6_evict wsX6_isCache := goodIn_r _ [7] (by decide +kernel) (by decide +kernel)
set_option maxRecDepth 20000 in
theorem gX6_evict_X6_isCache : GoodIn wsX6_evict (va_wsS RX6 97 yX6_isCache wsX6_isCache) := goodIn_app (goodIn_of _ (by decide +kernel)) ggX6_evict_X6_isCache
set_option maxRecDepth 20000 in
theorem ggX6_evict_X6_isLine : GoodIn wsX6_evict wsX6_isLine := goodIn_r _ [10] (by decide +kernel) (by decide +kernel)
set_option maxRecDepth 20000 in
theorem gX6_evict_X6_isLine : GoodIn wsX6_evict (va_wsS RX6 129 yX6_isLine wsX6_isLine) := goodIn_app (goodIn_of _ (by decide +kernel)) ggX6_evict_X6_isLine
set_option maxRecDepth 20000 in
theorem ggX6_evict_X6_fail : GoodIn wsX6_evict wsX6_fail := goodIn_r _ [14, 1, 39, 40, 41, 42, 43, 44, 45, 46, 47, 48, 49, 50, 51, 52, 53, 54, 55, 56, 57, 58, 59, 60, 61, 62, 63, 64, 65, 66, 67] (by decide +kernel) (by decide +kernel)
set_option maxRecDepth 20000 in
theorem gX6_evict_X6_fail : GoodIn wsX6_evict (wsV RX6 132 RX6 yX6_fail wsX6_fail) := goodIn_app (goodIn_of _ (by decide +kernel)) ggX6_evict_X6_fail
set_option maxRecDepth 20000 in
theorem ggX6_evict_X6_at : GoodIn wsX6_evict wsX6_at := goodIn_r _ [17] (by decide +kernel) (by decide +kernel)
set_option maxRecDepth 20000 in
theorem gX6_evict_X6_at : GoodIn wsX6_evict (va_wsS RX6 87 yX6_at wsX6_at) := goodIn_app (goodIn_of _ (by decide +kernel)) ggX6_evict_X6_at
set_option maxRecDepth 20000 in
theorem ggX6_evict_X6_canRemove : GoodIn wsX6_evict wsX6_canRemove := goodIn_r _ [21, 2, 22, 15, 16, 6, 17, 23, 24, 25, 26, 27, 39, 40, 41, 42, 43, 44, 45, 46, 47, 48, 49, 50, 51, 52, 53, 54, 55, 56, 57, 58, 59, 60, 61, 62, 63, 64, 65, 66, 67] (by decide +kernel) (by decide +kernel)
set_option maxRecDepth 20000 in
theorem gX6_evict_X6_canRemove : GoodIn wsX6_evict (wsV RX6 121 RX6 yX6_canRemove wsX6_canRemove) := goodIn_app (goodIn_of _ (by decide +kernel)) ggX6_evict_X6_canRemove
set_option maxRecDepth 20000 in
theorem ggX6_evict_X6_remove : GoodIn wsX6_evict wsX6_remove := goodIn_r _ [31, 2, 27, 32, 15, 16, 6, 17, 33, 34, 35, 36, 37, 38, 39, 40, 41, 42, 43, 44, 45, 46, 47, 48, 49, 50, 51, 52, 53, 54, 55, 56, 57, 58, 59, 60, 61, 62, 63, 64, 65, 66, 67] (by decide +kernel) (by decide +kernel)
set_option maxRecDepth 20000 in
theorem gX6_evict_X6_remove : GoodIn wsX6_evict (wsV RX6 125 RX6 yX6_remove wsX6_remove) := goodIn_app (goodIn_of _ (by decide +kernel)) ggX6_evict_X6_remove
theorem dX6_evict_0 : decode cX6_evict 0 = .ok (.aload_n 0, 1) := by decide +kernel
theorem dX6_evict_1 : decode cX6_evict 1 = .ok (.iconst 0, 1) := by decide +kernel
theorem dX6_evict_2 : decode cX6_evict 2 = .ok (.putfield 83, 3) := by decide +kernel
theorem dX6_evict_5 : decode cX6_evict 5 = .ok (.iload_n 1, 1) := by decide +kernel
theorem dX6_evict_6 : decode cX6_evict 6 = .ok (.invokestatic 97, 3) := by decide +kernel
theorem dX6_evict_9 : decode cX6_evict 9 = .ok (.ifCond .eq 10, 3) := by decide +kernel
theorem dX6_evict_12 : decode cX6_evict 12 = .ok (.iload_n 2, 1) := by decide +kernel
theorem dX6_evict_13 : decode cX6_evict 13 = .ok (.invokestatic 129, 3) := by decide +kernel
theorem dX6_evict_16 : decode cX6_evict 16 = .ok (.ifCond .ne 9, 3) := by decide +kernel
theorem dX6_evict_19 : decode cX6_evict 19 = .ok (.aload_n 0, 1) := by decide +kernel
theorem dX6_evict_20 : decode cX6_evict 20 = .ok (.iconst 1, 1) := by decide +kernel
theorem dX6_evict_21 : decode cX6_evict 21 = .ok (.invokevirtual 132, 3) := by decide +kernel
theorem dX6_evict_24 : decode cX6_evict 24 = .ok (.ireturn, 1) := by decide +kernel
theorem dX6_evict_25 : decode cX6_evict 25 = .ok (.aload_n 0, 1) := by decide +kernel
theorem dX6_evict_26 : decode cX6_evict 26 = .ok (.getfield 16, 3) := by decide +kernel
theorem dX6_evict_29 : decode cX6_evict 29 = .ok (.iload_n 1, 1) := by decide +kernel
theorem dX6_evict_30 : decode cX6_evict 30 = .ok (.iload_n 2, 1) := by decide +kernel
theorem dX6_evict_31 : decode cX6_evict 31 = .ok (.invokestatic 87, 3) := by decide +kernel
theorem dX6_evict_34 : decode cX6_evict 34 = .ok (.iaload, 1) := by decide +kernel
theorem dX6_evict_35 : decode cX6_evict 35 = .ok (.istore_n 3, 1) := by decide +kernel
theorem dX6_evict_36 : decode cX6_evict 36 = .ok (.iload_n 3, 1) := by decide +kernel
theorem dX6_evict_37 : decode cX6_evict 37 = .ok (.ifCond .ne 9, 3) := by decide +kernel
theorem dX6_evict_40 : decode cX6_evict 40 = .ok (.aload_n 0, 1) := by decide +kernel
theorem dX6_evict_41 : decode cX6_evict 41 = .ok (.iconst 2, 1) := by decide +kernel
theorem dX6_evict_42 : decode cX6_evict 42 = .ok (.invokevirtual 132, 3) := by decide +kernel
theorem dX6_evict_45 : decode cX6_evict 45 = .ok (.ireturn, 1) := by decide +kernel
theorem dX6_evict_46 : decode cX6_evict 46 = .ok (.aload_n 0, 1) := by decide +kernel
theorem dX6_evict_47 : decode cX6_evict 47 = .ok (.getfield 37, 3) := by decide +kernel
theorem dX6_evict_50 : decode cX6_evict 50 = .ok (.iload_n 1, 1) := by decide +kernel
theorem dX6_evict_51 : decode cX6_evict 51 = .ok (.iaload, 1) := by decide +kernel
theorem dX6_evict_52 : decode cX6_evict 52 = .ok (.iload_n 2, 1) := by decide +kernel
theorem dX6_evict_53 : decode cX6_evict 53 = .ok (.if_icmp .eq 12, 3) := by decide +kernel
theorem dX6_evict_56 : decode cX6_evict 56 = .ok (.aload_n 0, 1) := by decide +kernel
theorem dX6_evict_57 : decode cX6_evict 57 = .ok (.iload_n 1, 1) := by decide +kernel
theorem dX6_evict_58 : decode cX6_evict 58 = .ok (.iload_n 2, 1) := by decide +kernel
theorem dX6_evict_59 : decode cX6_evict 59 = .ok (.invokevirtual 121, 3) := by decide +kernel
theorem dX6_evict_62 : decode cX6_evict 62 = .ok (.ifCond .ne 9, 3) := by decide +kernel
theorem dX6_evict_65 : decode cX6_evict 65 = .ok (.aload_n 0, 1) := by decide +kernel
theorem dX6_evict_66 : decode cX6_evict 66 = .ok (.iconst 3, 1) := by decide +kernel
theorem dX6_evict_67 : decode cX6_evict 67 = .ok (.invokevirtual 132, 3) := by decide +kernel
theorem dX6_evict_70 : decode cX6_evict 70 = .ok (.ireturn, 1) := by decide +kernel
theorem dX6_evict_71 : decode cX6_evict 71 = .ok (.aload_n 0, 1) := by decide +kernel
theorem dX6_evict_72 : decode cX6_evict 72 = .ok (.iload_n 1, 1) := by decide +kernel
theorem dX6_evict_73 : decode cX6_evict 73 = .ok (.iload_n 2, 1) := by decide +kernel
theorem dX6_evict_74 : decode cX6_evict 74 = .ok (.invokevirtual 125, 3) := by decide +kernel
theorem dX6_evict_77 : decode cX6_evict 77 = .ok (.iload_n 3, 1) := by decide +kernel
theorem dX6_evict_78 : decode cX6_evict 78 = .ok (.ireturn, 1) := by decide +kernel
set_option maxRecDepth 20000 in
theorem ggX6_state_X6_isCache : GoodIn wsX6_state wsX6_isCache := goodIn_r _ [6] (by decide +kernel) (by decide +kernel)
set_option maxRecDepth 20000 in
theorem gX6_state_X6_isCache : GoodIn wsX6_state (va_wsS RX6 97 yX6_isCache wsX6_isCache) := goodIn_app (goodIn_of _ (by decide +kernel)) ggX6_state_X6_isCache
set_option maxRecDepth 20000 in
theorem ggX6_state_X6_isLine : GoodIn wsX6_state wsX6_isLine := goodIn_r _ [9] (by decide +kernel) (by decide +kernel)
set_option maxRecDepth 20000 in
theorem gX6_state_X6_isLine : GoodIn wsX6_state (va_wsS RX6 129 yX6_isLine wsX6_isLine) := goodIn_app (goodIn_of _ (by decide +kernel)) ggX6_state_X6_isLine
set_option maxRecDepth 20000 in
theorem ggX6_state_X6_at : GoodIn wsX6_state wsX6_at := goodIn_r _ [12] (by decide +kernel) (by decide +kernel)
set_option maxRecDepth 20000 in
theorem gX6_state_X6_at : GoodIn wsX6_state (va_wsS RX6 87 yX6_at wsX6_at) := goodIn_app (goodIn_of _ (by decide +kernel)) ggX6_state_X6_at
set_option maxRecDepth 20000 in
theorem ggX6_state_X6_fail : GoodIn wsX6_state wsX6_fail := goodIn_r _ [16, 1, 17, 18, 19, 20, 21, 22, 23, 24, 25, 26, 27, 28, 29, 30, 31, 32, 33, 34, 35, 36, 37, 38, 39, 40, 41, 42, 43, 44, 45] (by decide +kernel) (by decide +kernel)
set_option maxRecDepth 20000 in
theorem gX6_state_X6_fail : GoodIn wsX6_state (wsV RX6 132 RX6 yX6_fail wsX6_fail) := goodIn_app (goodIn_of _ (by decide +kernel)) ggX6_state_X6_fail
theorem dX6_state_0 : decode cX6_state 0 = .ok (.aload_n 0, 1) := by decide +kernel
theorem dX6_state_1 : decode cX6_state 1 = .ok (.iconst 0, 1) := by decide +kernel
theorem dX6_state_2 : decode cX6_state 2 = .ok (.putfield 83, 3) := by decide +kernel
theorem dX6_state_5 : decode cX6_state 5 = .ok (.iload_n 1, 1) := by decide +kernel
theorem dX6_state_6 : decode cX6_state 6 = .ok (.invokestatic 97, 3) := by decide +kernel
theorem dX6_state_9 : decode cX6_state 9 = .ok (.ifCond .eq 23, 3) := by decide +kernel
theorem dX6_state_12 : decode cX6_state 12 = .ok (.iload_n 2, 1) := by decide +kernel
theorem dX6_state_13 : decode cX6_state 13 = .ok (.invokestatic 129, 3) := by decide +kernel
theorem dX6_state_16 : decode cX6_state 16 = .ok (.ifCond .eq 16, 3) := by decide +kernel
theorem dX6_state_19 : decode cX6_state 19 = .ok (.aload_n 0, 1) := by decide +kernel
theorem dX6_state_20 : decode cX6_state 20 = .ok (.getfield 16, 3) := by decide +kernel
theorem dX6_state_23 : decode cX6_state 23 = .ok (.iload_n 1, 1) := by decide +kernel
theorem dX6_state_24 : decode cX6_state 24 = .ok (.iload_n 2, 1) := by decide +kernel
theorem dX6_state_25 : decode cX6_state 25 = .ok (.invokestatic 87, 3) := by decide +kernel
theorem dX6_state_28 : decode cX6_state 28 = .ok (.iaload, 1) := by decide +kernel
theorem dX6_state_29 : decode cX6_state 29 = .ok (.goto 8, 3) := by decide +kernel
theorem dX6_state_32 : decode cX6_state 32 = .ok (.aload_n 0, 1) := by decide +kernel
theorem dX6_state_33 : decode cX6_state 33 = .ok (.iconst 1, 1) := by decide +kernel
theorem dX6_state_34 : decode cX6_state 34 = .ok (.invokevirtual 132, 3) := by decide +kernel
theorem dX6_state_37 : decode cX6_state 37 = .ok (.ireturn, 1) := by decide +kernel
set_option maxRecDepth 20000 in
theorem ggX6_value_X6_isCache : GoodIn wsX6_value wsX6_isCache := goodIn_r _ [7] (by decide +kernel) (by decide +kernel)
set_option maxRecDepth 20000 in
theorem gX6_value_X6_isCache : GoodIn wsX6_value (va_wsS RX6 97 yX6_isCache wsX6_isCache) := goodIn_app (goodIn_of _ (by decide +kernel)) ggX6_value_X6_isCache
set_option maxRecDepth 20000 in
theorem ggX6_value_X6_isLine : GoodIn wsX6_value wsX6_isLine := goodIn_r _ [10] (by decide +kernel) (by decide +kernel)
set_option maxRecDepth 20000 in
theorem gX6_value_X6_isLine : GoodIn wsX6_value (va_wsS RX6 129 yX6_isLine wsX6_isLine) := goodIn_app (goodIn_of _ (by decide +kernel)) ggX6_value_X6_isLine
set_option maxRecDepth 20000 in
theorem ggX6_value_X6_fail : GoodIn wsX6_value wsX6_fail := goodIn_r _ [14, 1, 18, 19, 20, 21, 22, 23, 24, 25, 26, 27, 28, 29, 30, 31, 32, 33, 34, 35, 36, 37, 38, 39, 40, 41, 42, 43, 44, 45, 46] (by decide +kernel) (by decide +kernel)
set_option maxRecDepth 20000 in
theorem gX6_value_X6_fail : GoodIn wsX6_value (wsV RX6 132 RX6 yX6_fail wsX6_fail) := goodIn_app (goodIn_of _ (by decide +kernel)) ggX6_value_X6_fail
set_option maxRecDepth 20000 in
theorem ggX6_value_X6_at : GoodIn wsX6_value wsX6_at := goodIn_r _ [17] (by decide +kernel) (by decide +kernel)
set_option maxRecDepth 20000 in
theorem gX6_value_X6_at : GoodIn wsX6_value (va_wsS RX6 87 yX6_at wsX6_at) := goodIn_app (goodIn_of _ (by decide +kernel)) ggX6_value_X6_at
theorem dX6_value_0 : decode cX6_value 0 = .ok (.aload_n 0, 1) := by decide +kernel
theorem dX6_value_1 : decode cX6_value 1 = .ok (.iconst 0, 1) := by decide +kernel
theorem dX6_value_2 : decode cX6_value 2 = .ok (.putfield 83, 3) := by decide +kernel
theorem dX6_value_5 : decode cX6_value 5 = .ok (.iload_n 1, 1) := by decide +kernel
theorem dX6_value_6 : decode cX6_value 6 = .ok (.invokestatic 97, 3) := by decide +kernel
theorem dX6_value_9 : decode cX6_value 9 = .ok (.ifCond .eq 10, 3) := by decide +kernel
theorem dX6_value_12 : decode cX6_value 12 = .ok (.iload_n 2, 1) := by decide +kernel
theorem dX6_value_13 : decode cX6_value 13 = .ok (.invokestatic 129, 3) := by decide +kernel
theorem dX6_value_16 : decode cX6_value 16 = .ok (.ifCond .ne 9, 3) := by decide +kernel
theorem dX6_value_19 : decode cX6_value 19 = .ok (.aload_n 0, 1) := by decide +kernel
theorem dX6_value_20 : decode cX6_value 20 = .ok (.iconst 1, 1) := by decide +kernel
theorem dX6_value_21 : decode cX6_value 21 = .ok (.invokevirtual 132, 3) := by decide +kernel
theorem dX6_value_24 : decode cX6_value 24 = .ok (.ireturn, 1) := by decide +kernel
theorem dX6_value_25 : decode cX6_value 25 = .ok (.aload_n 0, 1) := by decide +kernel
theorem dX6_value_26 : decode cX6_value 26 = .ok (.getfield 16, 3) := by decide +kernel
theorem dX6_value_29 : decode cX6_value 29 = .ok (.iload_n 1, 1) := by decide +kernel
theorem dX6_value_30 : decode cX6_value 30 = .ok (.iload_n 2, 1) := by decide +kernel
theorem dX6_value_31 : decode cX6_value 31 = .ok (.invokestatic 87, 3) := by decide +kernel
theorem dX6_value_34 : decode cX6_value 34 = .ok (.iaload, 1) := by decide +kernel
theorem dX6_value_35 : decode cX6_value 35 = .ok (.ifCond .le 16, 3) := by decide +kernel
theorem dX6_value_38 : decode cX6_value 38 = .ok (.aload_n 0, 1) := by decide +kernel
theorem dX6_value_39 : decode cX6_value 39 = .ok (.getfield 19, 3) := by decide +kernel
theorem dX6_value_42 : decode cX6_value 42 = .ok (.iload_n 1, 1) := by decide +kernel
theorem dX6_value_43 : decode cX6_value 43 = .ok (.iload_n 2, 1) := by decide +kernel
theorem dX6_value_44 : decode cX6_value 44 = .ok (.invokestatic 87, 3) := by decide +kernel
theorem dX6_value_47 : decode cX6_value 47 = .ok (.iaload, 1) := by decide +kernel
theorem dX6_value_48 : decode cX6_value 48 = .ok (.goto 8, 3) := by decide +kernel
theorem dX6_value_51 : decode cX6_value 51 = .ok (.aload_n 0, 1) := by decide +kernel
theorem dX6_value_52 : decode cX6_value 52 = .ok (.iconst 2, 1) := by decide +kernel
theorem dX6_value_53 : decode cX6_value 53 = .ok (.invokevirtual 132, 3) := by decide +kernel
theorem dX6_value_56 : decode cX6_value 56 = .ok (.ireturn, 1) := by decide +kernel
set_option maxRecDepth 20000 in
theorem ggX6_victimValue_X6_isCache : GoodIn wsX6_victimValue wsX6_isCache := goodIn_r _ [6] (by decide +kernel) (by decide +kernel)
set_option maxRecDepth 20000 in
theorem gX6_victimValue_X6_isCache : GoodIn wsX6_victimValue (va_wsS RX6 97 yX6_isCache wsX6_isCache) := goodIn_app (goodIn_of _ (by decide +kernel)) ggX6_victimValue_X6_isCache
set_option maxRecDepth 20000 in
theorem ggX6_victimValue_X6_isLine : GoodIn wsX6_victimValue wsX6_isLine := goodIn_r _ [9] (by decide +kernel) (by decide +kernel)
set_option maxRecDepth 20000 in
theorem gX6_victimValue_X6_isLine : GoodIn wsX6_victimValue (va_wsS RX6 129 yX6_isLine wsX6_isLine) := goodIn_app (goodIn_of _ (by decide +kernel)) ggX6_victimValue_X6_isLine
set_option maxRecDepth 20000 in
theorem ggX6_victimValue_X6_at : GoodIn wsX6_victimValue wsX6_at := goodIn_r _ [12] (by decide +kernel) (by decide +kernel)
set_option maxRecDepth 20000 in
theorem gX6_victimValue_X6_at : GoodIn wsX6_victimValue (va_wsS RX6 87 yX6_at wsX6_at) := goodIn_app (goodIn_of _ (by decide +kernel)) ggX6_victimValue_X6_at
set_option maxRecDepth 20000 in
theorem ggX6_victimValue_X6_fail : GoodIn wsX6_victimValue wsX6_fail := goodIn_r _ [16, 1, 17, 18, 19, 20, 21, 22, 23, 24, 25, 26, 27, 28, 29, 30, 31, 32, 33, 34, 35, 36, 37, 38, 39, 40, 41, 42, 43, 44, 45] (by decide +kernel) (by decide +kernel)
set_option maxRecDepth 20000 in
theorem gX6_victimValue_X6_fail : GoodIn wsX6_victimValue (wsV RX6 132 RX6 yX6_fail wsX6_fail) := goodIn_app (goodIn_of _ (by decide +kernel)) ggX6_victimValue_X6_fail
theorem dX6_victimValue_0 : decode cX6_victimValue 0 = .ok (.aload_n 0, 1) := by decide +kernel
theorem dX6_victimValue_1 : decode cX6_victimValue 1 = .ok (.iconst 0, 1) := by decide +kernel
theorem dX6_victimValue_2 : decode cX6_victimValue 2 = .ok (.putfield 83, 3) := by decide +kernel
theorem dX6_victimValue_5 : decode cX6_victimValue 5 = .ok (.iload_n 1, 1) := by decide +kernel
theorem dX6_victimValue_6 : decode cX6_victimValue 6 = .ok (.invokestatic 97, 3) := by decide +kernel
theorem dX6_victimValue_9 : decode cX6_victimValue 9 = .ok (.ifCond .eq 23, 3) := by decide +kernel
theorem dX6_victimValue_12 : decode cX6_victimValue 12 = .ok (.iload_n 2, 1) := by decide +kernel
theorem dX6_victimValue_13 : decode cX6_victimValue 13 = .ok (.invokestatic 129, 3) := by decide +kernel
theorem dX6_victimValue_16 : decode cX6_victimValue 16 = .ok (.ifCond .eq 16, 3) := by decide +kernel
theorem dX6_victimValue_19 : decode cX6_victimValue 19 = .ok (.aload_n 0, 1) := by decide +kernel
theorem dX6_victimValue_20 : decode cX6_victimValue 20 = .ok (.getfield 25, 3) := by decide +kernel
theorem dX6_victimValue_23 : decode cX6_victimValue 23 = .ok (.iload_n 1, 1) := by decide +kernel
theorem dX6_victimValue_24 : decode cX6_victimValue 24 = .ok (.iload_n 2, 1) := by decide +kernel
theorem dX6_victimValue_25 : decode cX6_victimValue 25 = .ok (.invokestatic 87, 3) := by decide +kernel
theorem dX6_victimValue_28 : decode cX6_victimValue 28 = .ok (.iaload, 1) := by decide +kernel
theorem dX6_victimValue_29 : decode cX6_victimValue 29 = .ok (.goto 8, 3) := by decide +kernel
theorem dX6_victimValue_32 : decode cX6_victimValue 32 = .ok (.aload_n 0, 1) := by decide +kernel
theorem dX6_victimValue_33 : decode cX6_victimValue 33 = .ok (.iconst 1, 1) := by decide +kernel
theorem dX6_victimValue_34 : decode cX6_victimValue 34 = .ok (.invokevirtual 132, 3) := by decide +kernel
theorem dX6_victimValue_37 : decode cX6_victimValue 37 = .ok (.ireturn, 1) := by decide +kernel
set_option maxRecDepth 20000 in
theorem ggX6_openLine_X6_isCache : GoodIn wsX6_openLine wsX6_isCache := goodIn_r _ [6] (by decide +kernel) (by decide +kernel)
set_option maxRecDepth 20000 in
theorem gX6_openLine_X6_isCache : GoodIn wsX6_openLine (va_wsS RX6 97 yX6_isCache wsX6_isCache) := goodIn_app (goodIn_of _ (by decide +kernel)) ggX6_openLine_X6_isCache
set_option maxRecDepth 20000 in
theorem ggX6_openLine_X6_fail : GoodIn wsX6_openLine wsX6_fail := goodIn_r _ [10, 1, 11, 12, 13, 14, 15, 16, 17, 18, 19, 20, 21, 22, 23, 24, 25, 26, 27, 28, 29, 30, 31, 32, 33, 34, 35, 36, 37, 38, 39] (by decide +kernel) (by decide +kernel)
set_option maxRecDepth 20000 in
theorem gX6_openLine_X6_fail : GoodIn wsX6_openLine (wsV RX6 132 RX6 yX6_fail wsX6_fail) := goodIn_app (goodIn_of _ (by decide +kernel)) ggX6_openLine_X6_fail
theorem dX6_openLine_0 : decode cX6_openLine 0 = .ok (.aload_n 0, 1) := by decide +kernel
theorem dX6_openLine_1 : decode cX6_openLine 1 = .ok (.iconst 0, 1) := by decide +kernel
theorem dX6_openLine_2 : decode cX6_openLine 2 = .ok (.putfield 83, 3) := by decide +kernel
theorem dX6_openLine_5 : decode cX6_openLine 5 = .ok (.iload_n 1, 1) := by decide +kernel
theorem dX6_openLine_6 : decode cX6_openLine 6 = .ok (.invokestatic 97, 3) := by decide +kernel
theorem dX6_openLine_9 : decode cX6_openLine 9 = .ok (.ifCond .eq 12, 3) := by decide +kernel
theorem dX6_openLine_12 : decode cX6_openLine 12 = .ok (.aload_n 0, 1) := by decide +kernel
theorem dX6_openLine_13 : decode cX6_openLine 13 = .ok (.getfield 37, 3) := by decide +kernel
theorem dX6_openLine_16 : decode cX6_openLine 16 = .ok (.iload_n 1, 1) := by decide +kernel
theorem dX6_openLine_17 : decode cX6_openLine 17 = .ok (.iaload, 1) := by decide +kernel
theorem dX6_openLine_18 : decode cX6_openLine 18 = .ok (.goto 8, 3) := by decide +kernel
theorem dX6_openLine_21 : decode cX6_openLine 21 = .ok (.aload_n 0, 1) := by decide +kernel
theorem dX6_openLine_22 : decode cX6_openLine 22 = .ok (.iconst 1, 1) := by decide +kernel
theorem dX6_openLine_23 : decode cX6_openLine 23 = .ok (.invokevirtual 132, 3) := by decide +kernel
theorem dX6_openLine_26 : decode cX6_openLine 26 = .ok (.ireturn, 1) := by decide +kernel
set_option maxRecDepth 20000 in
theorem ggX6_latestRead_X6_isCache : GoodIn wsX6_latestRead wsX6_isCache := goodIn_r _ [6] (by decide +kernel) (by decide +kernel)
set_option maxRecDepth 20000 in
theorem gX6_latestRead_X6_isCache : GoodIn wsX6_latestRead (va_wsS RX6 97 yX6_isCache wsX6_isCache) := goodIn_app (goodIn_of _ (by decide +kernel)) ggX6_latestRead_X6_isCache
set_option maxRecDepth 20000 in
theorem ggX6_latestRead_X6_fail : GoodIn wsX6_latestRead wsX6_fail := goodIn_r _ [10, 1, 11, 12, 13, 14, 15, 16, 17, 18, 19, 20, 21, 22, 23, 24, 25, 26, 27, 28, 29, 30, 31, 32, 33, 34, 35, 36, 37, 38, 39] (by decide +kernel) (by decide +kernel)
set_option maxRecDepth 20000 in
theorem gX6_latestRead_X6_fail : GoodIn wsX6_latestRead (wsV RX6 132 RX6 yX6_fail wsX6_fail) := goodIn_app (goodIn_of _ (by decide +kernel)) ggX6_latestRead_X6_fail
theorem dX6_latestRead_0 : decode cX6_latestRead 0 = .ok (.aload_n 0, 1) := by decide +kernel
theorem dX6_latestRead_1 : decode cX6_latestRead 1 = .ok (.iconst 0, 1) := by decide +kernel
theorem dX6_latestRead_2 : decode cX6_latestRead 2 = .ok (.putfield 83, 3) := by decide +kernel
theorem dX6_latestRead_5 : decode cX6_latestRead 5 = .ok (.iload_n 1, 1) := by decide +kernel
theorem dX6_latestRead_6 : decode cX6_latestRead 6 = .ok (.invokestatic 97, 3) := by decide +kernel
theorem dX6_latestRead_9 : decode cX6_latestRead 9 = .ok (.ifCond .eq 12, 3) := by decide +kernel
theorem dX6_latestRead_12 : decode cX6_latestRead 12 = .ok (.aload_n 0, 1) := by decide +kernel
theorem dX6_latestRead_13 : decode cX6_latestRead 13 = .ok (.getfield 34, 3) := by decide +kernel
theorem dX6_latestRead_16 : decode cX6_latestRead 16 = .ok (.iload_n 1, 1) := by decide +kernel
theorem dX6_latestRead_17 : decode cX6_latestRead 17 = .ok (.iaload, 1) := by decide +kernel
theorem dX6_latestRead_18 : decode cX6_latestRead 18 = .ok (.goto 8, 3) := by decide +kernel
theorem dX6_latestRead_21 : decode cX6_latestRead 21 = .ok (.aload_n 0, 1) := by decide +kernel
theorem dX6_latestRead_22 : decode cX6_latestRead 22 = .ok (.iconst 1, 1) := by decide +kernel
theorem dX6_latestRead_23 : decode cX6_latestRead 23 = .ok (.invokevirtual 132, 3) := by decide +kernel
theorem dX6_latestRead_26 : decode cX6_latestRead 26 = .ok (.ireturn, 1) := by decide +kernel
set_option maxRecDepth 20000 in
theorem ggX6_lineAt_X6_isCache : GoodIn wsX6_lineAt wsX6_isCache := goodIn_r _ [5] (by decide +kernel) (by decide +kernel)
set_option maxRecDepth 20000 in
theorem gX6_lineAt_X6_isCache : GoodIn wsX6_lineAt (va_wsS RX6 97 yX6_isCache wsX6_isCache) := goodIn_app (goodIn_of _ (by decide +kernel)) ggX6_lineAt_X6_isCache
set_option maxRecDepth 20000 in
theorem ggX6_lineAt_X6_fail : GoodIn wsX6_lineAt wsX6_fail := goodIn_r _ [9, 1, 19, 20, 21, 22, 23, 24, 25, 26, 27, 28, 29, 30, 31, 32, 33, 34, 35, 36, 37, 38, 39, 40, 41, 42, 43, 44, 45, 46, 47] (by decide +kernel) (by decide +kernel)
set_option maxRecDepth 20000 in
theorem gX6_lineAt_X6_fail : GoodIn wsX6_lineAt (wsV RX6 132 RX6 yX6_fail wsX6_fail) := goodIn_app (goodIn_of _ (by decide +kernel)) ggX6_lineAt_X6_fail
set_option maxRecDepth 20000 in
theorem ggX6_lineAt_X6_lineBy : GoodIn wsX6_lineAt wsX6_lineBy := goodIn_r _ [13, 14, 15, 16, 17, 4, 18, 19, 20, 21, 22, 23, 24, 25, 26, 27, 28, 29, 30, 31, 32, 33, 34, 35, 36, 37, 38, 39, 40, 41, 42, 43, 44, 45, 46, 47] (by decide +kernel) (by decide +kernel)
set_option maxRecDepth 20000 in
theorem gX6_lineAt_X6_lineBy : GoodIn wsX6_lineAt (wsV RX6 115 RX6 yX6_lineBy wsX6_lineBy) := goodIn_app (goodIn_of _ (by decide +kernel)) ggX6_lineAt_X6_lineBy
theorem dX6_lineAt_0 : decode cX6_lineAt 0 = .ok (.aload_n 0, 1) := by decide +kernel
theorem dX6_lineAt_1 : decode cX6_lineAt 1 = .ok (.iconst 0, 1) := by decide +kernel
theorem dX6_lineAt_2 : decode cX6_lineAt 2 = .ok (.putfield 83, 3) := by decide +kernel
theorem dX6_lineAt_5 : decode cX6_lineAt 5 = .ok (.iload_n 1, 1) := by decide +kernel
theorem dX6_lineAt_6 : decode cX6_lineAt 6 = .ok (.invokestatic 97, 3) := by decide +kernel
theorem dX6_lineAt_9 : decode cX6_lineAt 9 = .ok (.ifCond .ne 9, 3) := by decide +kernel
theorem dX6_lineAt_12 : decode cX6_lineAt 12 = .ok (.aload_n 0, 1) := by decide +kernel
theorem dX6_lineAt_13 : decode cX6_lineAt 13 = .ok (.iconst 1, 1) := by decide +kernel
theorem dX6_lineAt_14 : decode cX6_lineAt 14 = .ok (.invokevirtual 132, 3) := by decide +kernel
theorem dX6_lineAt_17 : decode cX6_lineAt 17 = .ok (.ireturn, 1) := by decide +kernel
theorem dX6_lineAt_18 : decode cX6_lineAt 18 = .ok (.iload_n 2, 1) := by decide +kernel
theorem dX6_lineAt_19 : decode cX6_lineAt 19 = .ok (.ifCond .ge 7, 3) := by decide +kernel
theorem dX6_lineAt_22 : decode cX6_lineAt 22 = .ok (.iconst (-1), 1) := by decide +kernel
theorem dX6_lineAt_23 : decode cX6_lineAt 23 = .ok (.goto 9, 3) := by decide +kernel
theorem dX6_lineAt_26 : decode cX6_lineAt 26 = .ok (.aload_n 0, 1) := by decide +kernel
theorem dX6_lineAt_27 : decode cX6_lineAt 27 = .ok (.iload_n 1, 1) := by decide +kernel
theorem dX6_lineAt_28 : decode cX6_lineAt 28 = .ok (.iload_n 2, 1) := by decide +kernel
theorem dX6_lineAt_29 : decode cX6_lineAt 29 = .ok (.invokevirtual 115, 3) := by decide +kernel
theorem dX6_lineAt_32 : decode cX6_lineAt 32 = .ok (.istore_n 3, 1) := by decide +kernel
theorem dX6_lineAt_33 : decode cX6_lineAt 33 = .ok (.iload_n 3, 1) := by decide +kernel
theorem dX6_lineAt_34 : decode cX6_lineAt 34 = .ok (.iconst (-1), 1) := by decide +kernel
theorem dX6_lineAt_35 : decode cX6_lineAt 35 = .ok (.if_icmp .ne 11, 3) := by decide +kernel
theorem dX6_lineAt_38 : decode cX6_lineAt 38 = .ok (.aload_n 0, 1) := by decide +kernel
theorem dX6_lineAt_39 : decode cX6_lineAt 39 = .ok (.iconst 2, 1) := by decide +kernel
theorem dX6_lineAt_40 : decode cX6_lineAt 40 = .ok (.invokevirtual 132, 3) := by decide +kernel
theorem dX6_lineAt_43 : decode cX6_lineAt 43 = .ok (.goto 4, 3) := by decide +kernel
theorem dX6_lineAt_46 : decode cX6_lineAt 46 = .ok (.iload_n 3, 1) := by decide +kernel
theorem dX6_lineAt_47 : decode cX6_lineAt 47 = .ok (.ireturn, 1) := by decide +kernel
set_option maxRecDepth 20000 in
theorem ggX6_owner_X6_isLine : GoodIn wsX6_owner wsX6_isLine := goodIn_r _ [6] (by decide +kernel) (by decide +kernel)
set_option maxRecDepth 20000 in
theorem gX6_owner_X6_isLine : GoodIn wsX6_owner (va_wsS RX6 129 yX6_isLine wsX6_isLine) := goodIn_app (goodIn_of _ (by decide +kernel)) ggX6_owner_X6_isLine
set_option maxRecDepth 20000 in
theorem ggX6_owner_X6_fail : GoodIn wsX6_owner wsX6_fail := goodIn_r _ [10, 1, 11, 12, 13, 14, 15, 16, 17, 18, 19, 20, 21, 22, 23, 24, 25, 26, 27, 28, 29, 30, 31, 32, 33, 34, 35, 36, 37, 38, 39] (by decide +kernel) (by decide +kernel)
set_option maxRecDepth 20000 in
theorem gX6_owner_X6_fail : GoodIn wsX6_owner (wsV RX6 132 RX6 yX6_fail wsX6_fail) := goodIn_app (goodIn_of _ (by decide +kernel)) ggX6_owner_X6_fail
theorem dX6_owner_0 : decode cX6_owner 0 = .ok (.aload_n 0, 1) := by decide +kernel
theorem dX6_owner_1 : decode cX6_owner 1 = .ok (.iconst 0, 1) := by decide +kernel
theorem dX6_owner_2 : decode cX6_owner 2 = .ok (.putfield 83, 3) := by decide +kernel
theorem dX6_owner_5 : decode cX6_owner 5 = .ok (.iload_n 1, 1) := by decide +kernel
theorem dX6_owner_6 : decode cX6_owner 6 = .ok (.invokestatic 129, 3) := by decide +kernel
theorem dX6_owner_9 : decode cX6_owner 9 = .ok (.ifCond .eq 12, 3) := by decide +kernel
theorem dX6_owner_12 : decode cX6_owner 12 = .ok (.aload_n 0, 1) := by decide +kernel
theorem dX6_owner_13 : decode cX6_owner 13 = .ok (.getfield 62, 3) := by decide +kernel
theorem dX6_owner_16 : decode cX6_owner 16 = .ok (.iload_n 1, 1) := by decide +kernel
theorem dX6_owner_17 : decode cX6_owner 17 = .ok (.iaload, 1) := by decide +kernel
theorem dX6_owner_18 : decode cX6_owner 18 = .ok (.goto 8, 3) := by decide +kernel
theorem dX6_owner_21 : decode cX6_owner 21 = .ok (.aload_n 0, 1) := by decide +kernel
theorem dX6_owner_22 : decode cX6_owner 22 = .ok (.iconst 1, 1) := by decide +kernel
theorem dX6_owner_23 : decode cX6_owner 23 = .ok (.invokevirtual 132, 3) := by decide +kernel
theorem dX6_owner_26 : decode cX6_owner 26 = .ok (.ireturn, 1) := by decide +kernel
set_option maxRecDepth 20000 in
theorem ggX6_sharers_X6_isLine : GoodIn wsX6_sharers wsX6_isLine := goodIn_r _ [6] (by decide +kernel) (by decide +kernel)
set_option maxRecDepth 20000 in
theorem gX6_sharers_X6_isLine : GoodIn wsX6_sharers (va_wsS RX6 129 yX6_isLine wsX6_isLine) := goodIn_app (goodIn_of _ (by decide +kernel)) ggX6_sharers_X6_isLine
set_option maxRecDepth 20000 in
theorem ggX6_sharers_X6_fail : GoodIn wsX6_sharers wsX6_fail := goodIn_r _ [10, 1, 11, 12, 13, 14, 15, 16, 17, 18, 19, 20, 21, 22, 23, 24, 25, 26, 27, 28, 29, 30, 31, 32, 33, 34, 35, 36, 37, 38, 39] (by decide +kernel) (by decide +kernel)
set_option maxRecDepth 20000 in
theorem gX6_sharers_X6_fail : GoodIn wsX6_sharers (wsV RX6 132 RX6 yX6_fail wsX6_fail) := goodIn_app (goodIn_of _ (by decide +kernel)) ggX6_sharers_X6_fail
theorem dX6_sharers_0 : decode cX6_sharers 0 = .ok (.aload_n 0, 1) := by decide +kernel
theorem dX6_sharers_1 : decode cX6_sharers 1 = .ok (.iconst 0, 1) := by decide +kernel
theorem dX6_sharers_2 : decode cX6_sharers 2 = .ok (.putfield 83, 3) := by decide +kernel
theorem dX6_sharers_5 : decode cX6_sharers 5 = .ok (.iload_n 1, 1) := by decide +kernel
theorem dX6_sharers_6 : decode cX6_sharers 6 = .ok (.invokestatic 129, 3) := by decide +kernel
theorem dX6_sharers_9 : decode cX6_sharers 9 = .ok (.ifCond .eq 12, 3) := by decide +kernel
theorem dX6_sharers_12 : decode cX6_sharers 12 = .ok (.aload_n 0, 1) := by decide +kernel
theorem dX6_sharers_13 : decode cX6_sharers 13 = .ok (.getfield 65, 3) := by decide +kernel
theorem dX6_sharers_16 : decode cX6_sharers 16 = .ok (.iload_n 1, 1) := by decide +kernel
theorem dX6_sharers_17 : decode cX6_sharers 17 = .ok (.iaload, 1) := by decide +kernel
theorem dX6_sharers_18 : decode cX6_sharers 18 = .ok (.goto 8, 3) := by decide +kernel
theorem dX6_sharers_21 : decode cX6_sharers 21 = .ok (.aload_n 0, 1) := by decide +kernel
theorem dX6_sharers_22 : decode cX6_sharers 22 = .ok (.iconst 1, 1) := by decide +kernel
theorem dX6_sharers_23 : decode cX6_sharers 23 = .ok (.invokevirtual 132, 3) := by decide +kernel
theorem dX6_sharers_26 : decode cX6_sharers 26 = .ok (.ireturn, 1) := by decide +kernel
set_option maxRecDepth 20000 in
theorem ggX6_isBusy_X6_isLine : GoodIn wsX6_isBusy wsX6_isLine := goodIn_r _ [6] (by decide +kernel) (by decide +kernel)
set_option maxRecDepth 20000 in
theorem gX6_isBusy_X6_isLine : GoodIn wsX6_isBusy (va_wsS RX6 129 yX6_isLine wsX6_isLine) := goodIn_app (goodIn_of _ (by decide +kernel)) ggX6_isBusy_X6_isLine
set_option maxRecDepth 20000 in
theorem ggX6_isBusy_X6_failed : GoodIn wsX6_isBusy wsX6_failed := goodIn_r _ [10, 1, 11, 12, 13, 14, 15, 16, 17, 18, 19, 20, 21, 22, 23, 24, 25, 26, 27, 28, 29, 30, 31, 32, 33, 34, 35, 36, 37, 38, 39] (by decide +kernel) (by decide +kernel)
set_option maxRecDepth 20000 in
theorem gX6_isBusy_X6_failed : GoodIn wsX6_isBusy (wsV RX6 101 RX6 yX6_failed wsX6_failed) := goodIn_app (goodIn_of _ (by decide +kernel)) ggX6_isBusy_X6_failed
theorem dX6_isBusy_0 : decode cX6_isBusy 0 = .ok (.aload_n 0, 1) := by decide +kernel
theorem dX6_isBusy_1 : decode cX6_isBusy 1 = .ok (.iconst 0, 1) := by decide +kernel
theorem dX6_isBusy_2 : decode cX6_isBusy 2 = .ok (.putfield 83, 3) := by decide +kernel
theorem dX6_isBusy_5 : decode cX6_isBusy 5 = .ok (.iload_n 1, 1) := by decide +kernel
theorem dX6_isBusy_6 : decode cX6_isBusy 6 = .ok (.invokestatic 129, 3) := by decide +kernel
theorem dX6_isBusy_9 : decode cX6_isBusy 9 = .ok (.ifCond .eq 12, 3) := by decide +kernel
theorem dX6_isBusy_12 : decode cX6_isBusy 12 = .ok (.aload_n 0, 1) := by decide +kernel
theorem dX6_isBusy_13 : decode cX6_isBusy 13 = .ok (.getfield 68, 3) := by decide +kernel
theorem dX6_isBusy_16 : decode cX6_isBusy 16 = .ok (.iload_n 1, 1) := by decide +kernel
theorem dX6_isBusy_17 : decode cX6_isBusy 17 = .ok (.baload, 1) := by decide +kernel
theorem dX6_isBusy_18 : decode cX6_isBusy 18 = .ok (.goto 8, 3) := by decide +kernel
theorem dX6_isBusy_21 : decode cX6_isBusy 21 = .ok (.aload_n 0, 1) := by decide +kernel
theorem dX6_isBusy_22 : decode cX6_isBusy 22 = .ok (.iconst 1, 1) := by decide +kernel
theorem dX6_isBusy_23 : decode cX6_isBusy 23 = .ok (.invokevirtual 101, 3) := by decide +kernel
theorem dX6_isBusy_26 : decode cX6_isBusy 26 = .ok (.ireturn, 1) := by decide +kernel
set_option maxRecDepth 20000 in
theorem ggX6_queued_X6_isLine : GoodIn wsX6_queued wsX6_isLine := goodIn_r _ [6] (by decide +kernel) (by decide +kernel)
set_option maxRecDepth 20000 in
theorem gX6_queued_X6_isLine : GoodIn wsX6_queued (va_wsS RX6 129 yX6_isLine wsX6_isLine) := goodIn_app (goodIn_of _ (by decide +kernel)) ggX6_queued_X6_isLine
set_option maxRecDepth 20000 in
theorem ggX6_queued_X6_fail : GoodIn wsX6_queued wsX6_fail := goodIn_r _ [10, 1, 11, 12, 13, 14, 15, 16, 17, 18, 19, 20, 21, 22, 23, 24, 25, 26, 27, 28, 29, 30, 31, 32, 33, 34, 35, 36, 37, 38, 39] (by decide +kernel) (by decide +kernel)
set_option maxRecDepth 20000 in
theorem gX6_queued_X6_fail : GoodIn wsX6_queued (wsV RX6 132 RX6 yX6_fail wsX6_fail) := goodIn_app (goodIn_of _ (by decide +kernel)) ggX6_queued_X6_fail
theorem dX6_queued_0 : decode cX6_queued 0 = .ok (.aload_n 0, 1) := by decide +kernel
theorem dX6_queued_1 : decode cX6_queued 1 = .ok (.iconst 0, 1) := by decide +kernel
theorem dX6_queued_2 : decode cX6_queued 2 = .ok (.putfield 83, 3) := by decide +kernel
theorem dX6_queued_5 : decode cX6_queued 5 = .ok (.iload_n 1, 1) := by decide +kernel
theorem dX6_queued_6 : decode cX6_queued 6 = .ok (.invokestatic 129, 3) := by decide +kernel
theorem dX6_queued_9 : decode cX6_queued 9 = .ok (.ifCond .eq 12, 3) := by decide +kernel
theorem dX6_queued_12 : decode cX6_queued 12 = .ok (.aload_n 0, 1) := by decide +kernel
theorem dX6_queued_13 : decode cX6_queued 13 = .ok (.getfield 74, 3) := by decide +kernel
theorem dX6_queued_16 : decode cX6_queued 16 = .ok (.iload_n 1, 1) := by decide +kernel
theorem dX6_queued_17 : decode cX6_queued 17 = .ok (.iaload, 1) := by decide +kernel
theorem dX6_queued_18 : decode cX6_queued 18 = .ok (.goto 8, 3) := by decide +kernel
theorem dX6_queued_21 : decode cX6_queued 21 = .ok (.aload_n 0, 1) := by decide +kernel
theorem dX6_queued_22 : decode cX6_queued 22 = .ok (.iconst 1, 1) := by decide +kernel
theorem dX6_queued_23 : decode cX6_queued 23 = .ok (.invokevirtual 132, 3) := by decide +kernel
theorem dX6_queued_26 : decode cX6_queued 26 = .ok (.ireturn, 1) := by decide +kernel
set_option maxRecDepth 20000 in
theorem ggX6_memory_X6_isLine : GoodIn wsX6_memory wsX6_isLine := goodIn_r _ [6] (by decide +kernel) (by decide +kernel)
set_option maxRecDepth 20000 in
theorem gX6_memory_X6_isLine : GoodIn wsX6_memory (va_wsS RX6 129 yX6_isLine wsX6_isLine) := goodIn_app (goodIn_of _ (by decide +kernel)) ggX6_memory_X6_isLine
set_option maxRecDepth 20000 in
theorem ggX6_memory_X6_fail : GoodIn wsX6_memory wsX6_fail := goodIn_r _ [10, 1, 11, 12, 13, 14, 15, 16, 17, 18, 19, 20, 21, 22, 23, 24, 25, 26, 27, 28, 29, 30, 31, 32, 33, 34, 35, 36, 37, 38, 39] (by decide +kernel) (by decide +kernel)
set_option maxRecDepth 20000 in
theorem gX6_memory_X6_fail : GoodIn wsX6_memory (wsV RX6 132 RX6 yX6_fail wsX6_fail) := goodIn_app (goodIn_of _ (by decide +kernel)) ggX6_memory_X6_fail
theorem dX6_memory_0 : decode cX6_memory 0 = .ok (.aload_n 0, 1) := by decide +kernel
theorem dX6_memory_1 : decode cX6_memory 1 = .ok (.iconst 0, 1) := by decide +kernel
theorem dX6_memory_2 : decode cX6_memory 2 = .ok (.putfield 83, 3) := by decide +kernel
theorem dX6_memory_5 : decode cX6_memory 5 = .ok (.iload_n 1, 1) := by decide +kernel
theorem dX6_memory_6 : decode cX6_memory 6 = .ok (.invokestatic 129, 3) := by decide +kernel
theorem dX6_memory_9 : decode cX6_memory 9 = .ok (.ifCond .eq 12, 3) := by decide +kernel
theorem dX6_memory_12 : decode cX6_memory 12 = .ok (.aload_n 0, 1) := by decide +kernel
theorem dX6_memory_13 : decode cX6_memory 13 = .ok (.getfield 59, 3) := by decide +kernel
theorem dX6_memory_16 : decode cX6_memory 16 = .ok (.iload_n 1, 1) := by decide +kernel
theorem dX6_memory_17 : decode cX6_memory 17 = .ok (.iaload, 1) := by decide +kernel
theorem dX6_memory_18 : decode cX6_memory 18 = .ok (.goto 8, 3) := by decide +kernel
theorem dX6_memory_21 : decode cX6_memory 21 = .ok (.aload_n 0, 1) := by decide +kernel
theorem dX6_memory_22 : decode cX6_memory 22 = .ok (.iconst 1, 1) := by decide +kernel
theorem dX6_memory_23 : decode cX6_memory 23 = .ok (.invokevirtual 132, 3) := by decide +kernel
theorem dX6_memory_26 : decode cX6_memory 26 = .ok (.ireturn, 1) := by decide +kernel
theorem dX6_isMessage_0 : decode cX6_isMessage 0 = .ok (.iload_n 1, 1) := by decide +kernel
theorem dX6_isMessage_1 : decode cX6_isMessage 1 = .ok (.ifCond .lt 15, 3) := by decide +kernel
theorem dX6_isMessage_4 : decode cX6_isMessage 4 = .ok (.iload_n 1, 1) := by decide +kernel
theorem dX6_isMessage_5 : decode cX6_isMessage 5 = .ok (.aload_n 0, 1) := by decide +kernel
theorem dX6_isMessage_6 : decode cX6_isMessage 6 = .ok (.getfield 94, 3) := by decide +kernel
theorem dX6_isMessage_9 : decode cX6_isMessage 9 = .ok (.if_icmp .ge 7, 3) := by decide +kernel
theorem dX6_isMessage_12 : decode cX6_isMessage 12 = .ok (.iconst 1, 1) := by decide +kernel
theorem dX6_isMessage_13 : decode cX6_isMessage 13 = .ok (.goto 4, 3) := by decide +kernel
theorem dX6_isMessage_16 : decode cX6_isMessage 16 = .ok (.iconst 0, 1) := by decide +kernel
theorem dX6_isMessage_17 : decode cX6_isMessage 17 = .ok (.ireturn, 1) := by decide +kernel
set_option maxRecDepth 20000 in
theorem ggX6_part_X6_isMessage : GoodIn wsX6_part wsX6_isMessage := goodIn_r _ [7, 8, 13, 14, 15, 16, 17, 18, 19, 20, 21, 22, 23, 24, 25, 26, 27, 28, 29, 30, 31, 32, 33, 34, 35, 36, 37, 38, 39, 40, 41] (by decide +kernel) (by decide +kernel)
set_option maxRecDepth 20000 in
theorem gX6_part_X6_isMessage : GoodIn wsX6_part (wsV RX6 145 RX6 yX6_isMessage wsX6_isMessage) := goodIn_app (goodIn_of _ (by decide +kernel)) ggX6_part_X6_isMessage
set_option maxRecDepth 20000 in
theorem ggX6_part_X6_fail : GoodIn wsX6_part wsX6_fail := goodIn_r _ [12, 1, 13, 14, 15, 16, 17, 18, 19, 20, 21, 22, 23, 24, 25, 26, 27, 28, 29, 30, 31, 32, 33, 34, 35, 36, 37, 38, 39, 40, 41] (by decide +kernel) (by decide +kernel)
set_option maxRecDepth 20000 in
theorem gX6_part_X6_fail : GoodIn wsX6_part (wsV RX6 132 RX6 yX6_fail wsX6_fail) := goodIn_app (goodIn_of _ (by decide +kernel)) ggX6_part_X6_fail
theorem dX6_part_0 : decode cX6_part 0 = .ok (.aload_n 0, 1) := by decide +kernel
theorem dX6_part_1 : decode cX6_part 1 = .ok (.iconst 0, 1) := by decide +kernel
theorem dX6_part_2 : decode cX6_part 2 = .ok (.putfield 83, 3) := by decide +kernel
theorem dX6_part_5 : decode cX6_part 5 = .ok (.aload_n 0, 1) := by decide +kernel
theorem dX6_part_6 : decode cX6_part 6 = .ok (.iload_n 1, 1) := by decide +kernel
theorem dX6_part_7 : decode cX6_part 7 = .ok (.invokevirtual 145, 3) := by decide +kernel
theorem dX6_part_10 : decode cX6_part 10 = .ok (.ifCond .eq 17, 3) := by decide +kernel
theorem dX6_part_13 : decode cX6_part 13 = .ok (.aload_n 0, 1) := by decide +kernel
theorem dX6_part_14 : decode cX6_part 14 = .ok (.getfield 77, 3) := by decide +kernel
theorem dX6_part_17 : decode cX6_part 17 = .ok (.bipush 7, 2) := by decide +kernel
theorem dX6_part_19 : decode cX6_part 19 = .ok (.iload_n 1, 1) := by decide +kernel
theorem dX6_part_20 : decode cX6_part 20 = .ok (.imul, 1) := by decide +kernel
theorem dX6_part_21 : decode cX6_part 21 = .ok (.iload_n 2, 1) := by decide +kernel
theorem dX6_part_22 : decode cX6_part 22 = .ok (.iadd, 1) := by decide +kernel
theorem dX6_part_23 : decode cX6_part 23 = .ok (.iaload, 1) := by decide +kernel
theorem dX6_part_24 : decode cX6_part 24 = .ok (.goto 8, 3) := by decide +kernel
theorem dX6_part_27 : decode cX6_part 27 = .ok (.aload_n 0, 1) := by decide +kernel
theorem dX6_part_28 : decode cX6_part 28 = .ok (.iconst 1, 1) := by decide +kernel
theorem dX6_part_29 : decode cX6_part 29 = .ok (.invokevirtual 132, 3) := by decide +kernel
theorem dX6_part_32 : decode cX6_part 32 = .ok (.ireturn, 1) := by decide +kernel
theorem dX6_messageCount_0 : decode cX6_messageCount 0 = .ok (.aload_n 0, 1) := by decide +kernel
theorem dX6_messageCount_1 : decode cX6_messageCount 1 = .ok (.iconst 0, 1) := by decide +kernel
theorem dX6_messageCount_2 : decode cX6_messageCount 2 = .ok (.putfield 83, 3) := by decide +kernel
theorem dX6_messageCount_5 : decode cX6_messageCount 5 = .ok (.aload_n 0, 1) := by decide +kernel
theorem dX6_messageCount_6 : decode cX6_messageCount 6 = .ok (.getfield 94, 3) := by decide +kernel
theorem dX6_messageCount_9 : decode cX6_messageCount 9 = .ok (.ireturn, 1) := by decide +kernel
set_option maxRecDepth 20000 in
theorem ggX6_messageKind_X6_part : GoodIn wsX6_messageKind wsX6_part := goodIn_r _ [5, 6, 7, 8, 9, 10, 4, 11, 12, 13, 14, 15, 16, 17, 18, 19, 20, 21, 22, 23, 24, 25, 26, 27, 28, 29, 30, 31, 32, 33, 34, 35, 36, 37, 38, 39, 40, 41, 42, 43, 44, 45] (by decide +kernel) (by decide +kernel)
set_option maxRecDepth 20000 in
theorem gX6_messageKind_X6_part : GoodIn wsX6_messageKind (wsV RX6 148 RX6 yX6_part wsX6_part) := goodIn_app (goodIn_of _ (by decide +kernel)) ggX6_messageKind_X6_part
theorem dX6_messageKind_0 : decode cX6_messageKind 0 = .ok (.aload_n 0, 1) := by decide +kernel
theorem dX6_messageKind_1 : decode cX6_messageKind 1 = .ok (.iload_n 1, 1) := by decide +kernel
theorem dX6_messageKind_2 : decode cX6_messageKind 2 = .ok (.iconst 0, 1) := by decide +kernel
theorem dX6_messageKind_3 : decode cX6_messageKind 3 = .ok (.invokevirtual 148, 3) := by decide +kernel
theorem dX6_messageKind_6 : decode cX6_messageKind 6 = .ok (.ireturn, 1) := by decide +kernel
set_option maxRecDepth 20000 in
theorem ggX6_messageLine_X6_part : GoodIn wsX6_messageLine wsX6_part := goodIn_r _ [5, 6, 7, 8, 9, 10, 4, 11, 12, 13, 14, 15, 16, 17, 18, 19, 20, 21, 22, 23, 24, 25, 26, 27, 28, 29, 30, 31, 32, 33, 34, 35, 36, 37, 38, 39, 40, 41, 42, 43, 44, 45] (by decide +kernel) (by decide +kernel)
set_option maxRecDepth 20000 in
theorem gX6_messageLine_X6_part : GoodIn wsX6_messageLine (wsV RX6 148 RX6 yX6_part wsX6_part) := goodIn_app (goodIn_of _ (by decide +kernel)) ggX6_messageLine_X6_part
theorem dX6_messageLine_0 : decode cX6_messageLine 0 = .ok (.aload_n 0, 1) := by decide +kernel
theorem dX6_messageLine_1 : decode cX6_messageLine 1 = .ok (.iload_n 1, 1) := by decide +kernel
theorem dX6_messageLine_2 : decode cX6_messageLine 2 = .ok (.iconst 1, 1) := by decide +kernel
theorem dX6_messageLine_3 : decode cX6_messageLine 3 = .ok (.invokevirtual 148, 3) := by decide +kernel
theorem dX6_messageLine_6 : decode cX6_messageLine 6 = .ok (.ireturn, 1) := by decide +kernel
set_option maxRecDepth 20000 in
theorem ggX6_messageFrom_X6_part : GoodIn wsX6_messageFrom wsX6_part := goodIn_r _ [5, 6, 7, 8, 9, 10, 4, 11, 12, 13, 14, 15, 16, 17, 18, 19, 20, 21, 22, 23, 24, 25, 26, 27, 28, 29, 30, 31, 32, 33, 34, 35, 36, 37, 38, 39, 40, 41, 42, 43, 44, 45] (by decide +kernel) (by decide +kernel)
set_option maxRecDepth 20000 in
theorem gX6_messageFrom_X6_part : GoodIn wsX6_messageFrom (wsV RX6 148 RX6 yX6_part wsX6_part) := goodIn_app (goodIn_of _ (by decide +kernel)) ggX6_messageFrom_X6_part
theorem dX6_messageFrom_0 : decode cX6_messageFrom 0 = .ok (.aload_n 0, 1) := by decide +kernel
theorem dX6_messageFrom_1 : decode cX6_messageFrom 1 = .ok (.iload_n 1, 1) := by decide +kernel
theorem dX6_messageFrom_2 : decode cX6_messageFrom 2 = .ok (.iconst 2, 1) := by decide +kernel
theorem dX6_messageFrom_3 : decode cX6_messageFrom 3 = .ok (.invokevirtual 148, 3) := by decide +kernel
theorem dX6_messageFrom_6 : decode cX6_messageFrom 6 = .ok (.ireturn, 1) := by decide +kernel
set_option maxRecDepth 20000 in
theorem ggX6_messageTo_X6_part : GoodIn wsX6_messageTo wsX6_part := goodIn_r _ [5, 6, 7, 8, 9, 10, 4, 11, 12, 13, 14, 15, 16, 17, 18, 19, 20, 21, 22, 23, 24, 25, 26, 27, 28, 29, 30, 31, 32, 33, 34, 35, 36, 37, 38, 39, 40, 41, 42, 43, 44, 45] (by decide +kernel) (by decide +kernel)
set_option maxRecDepth 20000 in
theorem gX6_messageTo_X6_part : GoodIn wsX6_messageTo (wsV RX6 148 RX6 yX6_part wsX6_part) := goodIn_app (goodIn_of _ (by decide +kernel)) ggX6_messageTo_X6_part
theorem dX6_messageTo_0 : decode cX6_messageTo 0 = .ok (.aload_n 0, 1) := by decide +kernel
theorem dX6_messageTo_1 : decode cX6_messageTo 1 = .ok (.iload_n 1, 1) := by decide +kernel
theorem dX6_messageTo_2 : decode cX6_messageTo 2 = .ok (.iconst 3, 1) := by decide +kernel
theorem dX6_messageTo_3 : decode cX6_messageTo 3 = .ok (.invokevirtual 148, 3) := by decide +kernel
theorem dX6_messageTo_6 : decode cX6_messageTo 6 = .ok (.ireturn, 1) := by decide +kernel
set_option maxRecDepth 20000 in
theorem ggX6_deliver_X6_isMessage : GoodIn wsX6_deliver wsX6_isMessage := goodIn_r _ [7, 2, 70, 71, 72, 73, 74, 75, 76, 77, 78, 79, 80, 81, 82, 83, 84, 85, 86, 87, 88, 89, 90, 91, 92, 93, 94, 95, 96, 97, 98] (by decide +kernel) (by decide +kernel)
set_option maxRecDepth 20000 in
theorem gX6_deliver_X6_isMessage : GoodIn wsX6_deliver (wsV RX6 145 RX6 yX6_isMessage wsX6_isMessage) := goodIn_app (goodIn_of _ (by decide +kernel)) ggX6_deliver_X6_isMessage
set_option maxRecDepth 20000 in
theorem ggX6_deliver_X6_fail : GoodIn wsX6_deliver wsX6_fail := goodIn_r _ [11, 1, 70, 71, 72, 73, 74, 75, 76, 77, 78, 79, 80, 81, 82, 83, 84, 85, 86, 87, 88, 89, 90, 91, 92, 93, 94, 95, 96, 97, 98] (by decide +kernel) (by decide +kernel)
set_option maxRecDepth 20000 in
theorem gX6_deliver_X6_fail : GoodIn wsX6_deliver (wsV RX6 132 RX6 yX6_fail wsX6_fail) := goodIn_app (goodIn_of _ (by decide +kernel)) ggX6_deliver_X6_fail
set_option maxRecDepth 20000 in
theorem ggX6_deliver_X6_take : GoodIn wsX6_deliver wsX6_take := goodIn_r _ [15, 16, 17, 2, 18, 19, 20, 21, 6, 22, 23, 24, 25, 26, 27, 28, 29, 30, 31, 32, 33, 34, 35, 36, 37, 38, 39, 40, 41, 42, 43, 44, 45, 46, 47, 48, 49, 50, 51, 52, 53, 54, 55, 56, 57, 58, 59, 60, 61, 62, 63, 64, 65, 66, 67, 68, 69, 70, 71, 72, 73, 74, 75, 76, 77, 78, 79, 80, 81, 82, 83, 84, 85, 86, 87, 88, 89, 90, 91, 92, 93, 94, 95, 96, 97, 98] (by decide +kernel) (by decide +kernel)
set_option maxRecDepth 20000 in
theorem gX6_deliver_X6_take : GoodIn wsX6_deliver (wsV RX6 151 RX6 yX6_take wsX6_take) := goodIn_app (goodIn_of _ (by decide +kernel)) ggX6_deliver_X6_take
theorem dX6_deliver_0 : decode cX6_deliver 0 = .ok (.aload_n 0, 1) := by decide +kernel
theorem dX6_deliver_1 : decode cX6_deliver 1 = .ok (.iconst 0, 1) := by decide +kernel
theorem dX6_deliver_2 : decode cX6_deliver 2 = .ok (.putfield 83, 3) := by decide +kernel
theorem dX6_deliver_5 : decode cX6_deliver 5 = .ok (.aload_n 0, 1) := by decide +kernel
theorem dX6_deliver_6 : decode cX6_deliver 6 = .ok (.iload_n 1, 1) := by decide +kernel
theorem dX6_deliver_7 : decode cX6_deliver 7 = .ok (.invokevirtual 145, 3) := by decide +kernel
theorem dX6_deliver_10 : decode cX6_deliver 10 = .ok (.ifCond .ne 9, 3) := by decide +kernel
theorem dX6_deliver_13 : decode cX6_deliver 13 = .ok (.aload_n 0, 1) := by decide +kernel
theorem dX6_deliver_14 : decode cX6_deliver 14 = .ok (.iconst 1, 1) := by decide +kernel
theorem dX6_deliver_15 : decode cX6_deliver 15 = .ok (.invokevirtual 132, 3) := by decide +kernel
theorem dX6_deliver_18 : decode cX6_deliver 18 = .ok (.ireturn, 1) := by decide +kernel
theorem dX6_deliver_19 : decode cX6_deliver 19 = .ok (.aload_n 0, 1) := by decide +kernel
theorem dX6_deliver_20 : decode cX6_deliver 20 = .ok (.iload_n 1, 1) := by decide +kernel
theorem dX6_deliver_21 : decode cX6_deliver 21 = .ok (.invokevirtual 151, 3) := by decide +kernel
theorem dX6_deliver_24 : decode cX6_deliver 24 = .ok (.aload_n 0, 1) := by decide +kernel
theorem dX6_deliver_25 : decode cX6_deliver 25 = .ok (.getfield 94, 3) := by decide +kernel
theorem dX6_deliver_28 : decode cX6_deliver 28 = .ok (.ireturn, 1) := by decide +kernel
set_option maxRecDepth 20000 in
theorem ggX6_settle_X6_fail : GoodIn wsX6_settle wsX6_fail := goodIn_r _ [7, 1, 66, 67, 68, 69, 70, 71, 72, 73, 74, 75, 76, 77, 78, 79, 80, 81, 82, 83, 84, 85, 86, 87, 88, 89, 90, 91, 92, 93, 94] (by decide +kernel) (by decide +kernel)
set_option maxRecDepth 20000 in
theorem gX6_settle_X6_fail : GoodIn wsX6_settle (wsV RX6 132 RX6 yX6_fail wsX6_fail) := goodIn_app (goodIn_of _ (by decide +kernel)) ggX6_settle_X6_fail
set_option maxRecDepth 20000 in
theorem ggX6_settle_X6_take : GoodIn wsX6_settle wsX6_take := goodIn_r _ [11, 12, 13, 2, 14, 15, 16, 17, 6, 18, 19, 20, 21, 22, 23, 24, 25, 26, 27, 28, 29, 30, 31, 32, 33, 34, 35, 36, 37, 38, 39, 40, 41, 42, 43, 44, 45, 46, 47, 48, 49, 50, 51, 52, 53, 54, 55, 56, 57, 58, 59, 60, 61, 62, 63, 64, 65, 66, 67, 68, 69, 70, 71, 72, 73, 74, 75, 76, 77, 78, 79, 80, 81, 82, 83, 84, 85, 86, 87, 88, 89, 90, 91, 92, 93, 94] (by decide +kernel) (by decide +kernel)
set_option maxRecDepth 20000 in
theorem gX6_settle_X6_take : GoodIn wsX6_settle (wsV RX6 151 RX6 yX6_take wsX6_take) := goodIn_app (goodIn_of _ (by decide +kernel)) ggX6_settle_X6_take
theorem dX6_settle_0 : decode cX6_settle 0 = .ok (.aload_n 0, 1) := by decide +kernel
theorem dX6_settle_1 : decode cX6_settle 1 = .ok (.iconst 0, 1) := by decide +kernel
theorem dX6_settle_2 : decode cX6_settle 2 = .ok (.putfield 83, 3) := by decide +kernel
theorem dX6_settle_5 : decode cX6_settle 5 = .ok (.iload_n 1, 1) := by decide +kernel
theorem dX6_settle_6 : decode cX6_settle 6 = .ok (.ifCond .lt 10, 3) := by decide +kernel
theorem dX6_settle_9 : decode cX6_settle 9 = .ok (.iload_n 1, 1) := by decide +kernel
theorem dX6_settle_10 : decode cX6_settle 10 = .ok (.sipush 1000, 3) := by decide +kernel
theorem dX6_settle_13 : decode cX6_settle 13 = .ok (.if_icmp .le 9, 3) := by decide +kernel
theorem dX6_settle_16 : decode cX6_settle 16 = .ok (.aload_n 0, 1) := by decide +kernel
theorem dX6_settle_17 : decode cX6_settle 17 = .ok (.iconst 1, 1) := by decide +kernel
theorem dX6_settle_18 : decode cX6_settle 18 = .ok (.invokevirtual 132, 3) := by decide +kernel
theorem dX6_settle_21 : decode cX6_settle 21 = .ok (.ireturn, 1) := by decide +kernel
theorem dX6_settle_22 : decode cX6_settle 22 = .ok (.iconst 0, 1) := by decide +kernel
theorem dX6_settle_23 : decode cX6_settle 23 = .ok (.istore_n 2, 1) := by decide +kernel
theorem dX6_settle_24 : decode cX6_settle 24 = .ok (.iload_n 2, 1) := by decide +kernel
theorem dX6_settle_25 : decode cX6_settle 25 = .ok (.iload_n 1, 1) := by decide +kernel
theorem dX6_settle_26 : decode cX6_settle 26 = .ok (.if_icmp .ge 21, 3) := by decide +kernel
theorem dX6_settle_29 : decode cX6_settle 29 = .ok (.aload_n 0, 1) := by decide +kernel
theorem dX6_settle_30 : decode cX6_settle 30 = .ok (.getfield 94, 3) := by decide +kernel
theorem dX6_settle_33 : decode cX6_settle 33 = .ok (.ifCond .le 14, 3) := by decide +kernel
theorem dX6_settle_36 : decode cX6_settle 36 = .ok (.aload_n 0, 1) := by decide +kernel
theorem dX6_settle_37 : decode cX6_settle 37 = .ok (.iconst 0, 1) := by decide +kernel
theorem dX6_settle_38 : decode cX6_settle 38 = .ok (.invokevirtual 151, 3) := by decide +kernel
theorem dX6_settle_41 : decode cX6_settle 41 = .ok (.iinc 2 1, 3) := by decide +kernel
theorem dX6_settle_44 : decode cX6_settle 44 = .ok (.goto (-20), 3) := by decide +kernel
theorem dX6_settle_47 : decode cX6_settle 47 = .ok (.iload_n 2, 1) := by decide +kernel
theorem dX6_settle_48 : decode cX6_settle 48 = .ok (.ireturn, 1) := by decide +kernel
set_option maxRecDepth 20000 in
theorem ggX6_take_X6_receive : GoodIn wsX6_take wsX6_receive := goodIn_r _ [9, 10, 11, 12, 1, 13, 14, 15, 16, 17, 18, 8, 19, 20, 21, 22, 23, 24, 25, 26, 27, 28, 29, 30, 31, 32, 33, 34, 35, 36, 37, 3, 2, 57, 58, 59, 60, 61, 62, 63, 64, 65, 66, 67, 68, 69, 70, 71, 72, 73, 74, 75, 76, 77, 78, 79, 80, 81, 82, 83, 84, 85] (by decide +kernel) (by decide +kernel)
set_option maxRecDepth 20000 in
theorem gX6_take_X6_receive : GoodIn wsX6_take (wsV RX6 155 RX6 yX6_receive wsX6_receive) := goodIn_app (goodIn_of _ (by decide +kernel)) ggX6_take_X6_receive
set_option maxRecDepth 20000 in
theorem ggX6_take_X6_free : GoodIn wsX6_take wsX6_free := goodIn_r _ [41, 4, 42, 1, 43, 44, 45, 46, 8, 47, 48, 49, 50, 51, 52, 34, 35, 36, 37, 3, 2, 57, 58, 59, 60, 61, 62, 63, 64, 65, 66, 67, 68, 69, 70, 71, 72, 73, 74, 75, 76, 77, 78, 79, 80, 81, 82, 83, 84, 85] (by decide +kernel) (by decide +kernel)
set_option maxRecDepth 20000 in
theorem gX6_take_X6_free : GoodIn wsX6_take (wsV RX6 158 RX6 yX6_free wsX6_free) := goodIn_app (goodIn_of _ (by decide +kernel)) ggX6_take_X6_free
set_option maxRecDepth 20000 in
theorem ggX6_take_X6_enqueue : GoodIn wsX6_take wsX6_enqueue := goodIn_r _ [56, 42, 43, 1, 57, 58, 59, 60, 61, 62, 63, 64, 65, 66, 67, 68, 69, 70, 71, 72, 73, 74, 75, 76, 77, 78, 79, 80, 81, 82, 83, 84, 85] (by decide +kernel) (by decide +kernel)
set_option maxRecDepth 20000 in
theorem gX6_take_X6_enqueue : GoodIn wsX6_take (wsV RX6 161 RX6 yX6_enqueue wsX6_enqueue) := goodIn_app (goodIn_of _ (by decide +kernel)) ggX6_take_X6_enqueue
set_option maxRecDepth 20000 in
theorem ggX6_take_X6_process : GoodIn wsX6_take wsX6_process := goodIn_r _ [47, 48, 1, 49, 50, 51, 52, 4, 34, 35, 36, 8, 37, 3, 2, 57, 58, 59, 60, 61, 62, 63, 64, 65, 66, 67, 68, 69, 70, 71, 72, 73, 74, 75, 76, 77, 78, 79, 80, 81, 82, 83, 84, 85] (by decide +kernel) (by decide +kernel)
set_option maxRecDepth 20000 in
theorem gX6_take_X6_process : GoodIn wsX6_take (wsV RX6 164 RX6 yX6_process wsX6_process) := goodIn_app (goodIn_of _ (by decide +kernel)) ggX6_take_X6_process
theorem dX6_take_0 : decode cX6_take 0 = .ok (.iconst 0, 1) := by decide +kernel
theorem dX6_take_1 : decode cX6_take 1 = .ok (.istore_n 2, 1) := by decide +kernel
theorem dX6_take_2 : decode cX6_take 2 = .ok (.iload_n 2, 1) := by decide +kernel
theorem dX6_take_3 : decode cX6_take 3 = .ok (.bipush 7, 2) := by decide +kernel
theorem dX6_take_5 : decode cX6_take 5 = .ok (.if_icmp .ge 26, 3) := by decide +kernel
theorem dX6_take_8 : decode cX6_take 8 = .ok (.aload_n 0, 1) := by decide +kernel
theorem dX6_take_9 : decode cX6_take 9 = .ok (.getfield 80, 3) := by decide +kernel
theorem dX6_take_12 : decode cX6_take 12 = .ok (.iload_n 2, 1) := by decide +kernel
theorem dX6_take_13 : decode cX6_take 13 = .ok (.aload_n 0, 1) := by decide +kernel
theorem dX6_take_14 : decode cX6_take 14 = .ok (.getfield 77, 3) := by decide +kernel
theorem dX6_take_17 : decode cX6_take 17 = .ok (.bipush 7, 2) := by decide +kernel
theorem dX6_take_19 : decode cX6_take 19 = .ok (.iload_n 1, 1) := by decide +kernel
theorem dX6_take_20 : decode cX6_take 20 = .ok (.imul, 1) := by decide +kernel
theorem dX6_take_21 : decode cX6_take 21 = .ok (.iload_n 2, 1) := by decide +kernel
theorem dX6_take_22 : decode cX6_take 22 = .ok (.iadd, 1) := by decide +kernel
theorem dX6_take_23 : decode cX6_take 23 = .ok (.iaload, 1) := by decide +kernel
theorem dX6_take_24 : decode cX6_take 24 = .ok (.iastore, 1) := by decide +kernel
theorem dX6_take_25 : decode cX6_take 25 = .ok (.iinc 2 1, 3) := by decide +kernel
theorem dX6_take_28 : decode cX6_take 28 = .ok (.goto (-26), 3) := by decide +kernel
theorem dX6_take_31 : decode cX6_take 31 = .ok (.aload_n 0, 1) := by decide +kernel
theorem dX6_take_32 : decode cX6_take 32 = .ok (.dup, 1) := by decide +kernel
theorem dX6_take_33 : decode cX6_take 33 = .ok (.getfield 94, 3) := by decide +kernel
theorem dX6_take_36 : decode cX6_take 36 = .ok (.iconst 1, 1) := by decide +kernel
theorem dX6_take_37 : decode cX6_take 37 = .ok (.isub, 1) := by decide +kernel
theorem dX6_take_38 : decode cX6_take 38 = .ok (.putfield 94, 3) := by decide +kernel
theorem dX6_take_41 : decode cX6_take 41 = .ok (.bipush 7, 2) := by decide +kernel
theorem dX6_take_43 : decode cX6_take 43 = .ok (.iload_n 1, 1) := by decide +kernel
theorem dX6_take_44 : decode cX6_take 44 = .ok (.imul, 1) := by decide +kernel
theorem dX6_take_45 : decode cX6_take 45 = .ok (.istore_n 2, 1) := by decide +kernel
theorem dX6_take_46 : decode cX6_take 46 = .ok (.iload_n 2, 1) := by decide +kernel
theorem dX6_take_47 : decode cX6_take 47 = .ok (.bipush 7, 2) := by decide +kernel
theorem dX6_take_49 : decode cX6_take 49 = .ok (.aload_n 0, 1) := by decide +kernel
theorem dX6_take_50 : decode cX6_take 50 = .ok (.getfield 94, 3) := by decide +kernel
theorem dX6_take_53 : decode cX6_take 53 = .ok (.imul, 1) := by decide +kernel
theorem dX6_take_54 : decode cX6_take 54 = .ok (.if_icmp .ge 24, 3) := by decide +kernel
theorem dX6_take_57 : decode cX6_take 57 = .ok (.aload_n 0, 1) := by decide +kernel
theorem dX6_take_58 : decode cX6_take 58 = .ok (.getfield 77, 3) := by decide +kernel
theorem dX6_take_61 : decode cX6_take 61 = .ok (.iload_n 2, 1) := by decide +kernel
theorem dX6_take_62 : decode cX6_take 62 = .ok (.aload_n 0, 1) := by decide +kernel
theorem dX6_take_63 : decode cX6_take 63 = .ok (.getfield 77, 3) := by decide +kernel
theorem dX6_take_66 : decode cX6_take 66 = .ok (.iload_n 2, 1) := by decide +kernel
theorem dX6_take_67 : decode cX6_take 67 = .ok (.bipush 7, 2) := by decide +kernel
theorem dX6_take_69 : decode cX6_take 69 = .ok (.iadd, 1) := by decide +kernel
theorem dX6_take_70 : decode cX6_take 70 = .ok (.iaload, 1) := by decide +kernel
theorem dX6_take_71 : decode cX6_take 71 = .ok (.iastore, 1) := by decide +kernel
theorem dX6_take_72 : decode cX6_take 72 = .ok (.iinc 2 1, 3) := by decide +kernel
theorem dX6_take_75 : decode cX6_take 75 = .ok (.goto (-29), 3) := by decide +kernel
theorem dX6_take_78 : decode cX6_take 78 = .ok (.aload_n 0, 1) := by decide +kernel
theorem dX6_take_79 : decode cX6_take 79 = .ok (.getfield 80, 3) := by decide +kernel
theorem dX6_take_82 : decode cX6_take 82 = .ok (.iconst 3, 1) := by decide +kernel
theorem dX6_take_83 : decode cX6_take 83 = .ok (.iaload, 1) := by decide +kernel
theorem dX6_take_84 : decode cX6_take 84 = .ok (.iconst (-1), 1) := by decide +kernel
theorem dX6_take_85 : decode cX6_take 85 = .ok (.if_icmp .eq 22, 3) := by decide +kernel
theorem dX6_take_88 : decode cX6_take 88 = .ok (.aload_n 0, 1) := by decide +kernel
theorem dX6_take_89 : decode cX6_take 89 = .ok (.aload_n 0, 1) := by decide +kernel
theorem dX6_take_90 : decode cX6_take 90 = .ok (.getfield 80, 3) := by decide +kernel
theorem dX6_take_93 : decode cX6_take 93 = .ok (.iconst 3, 1) := by decide +kernel
theorem dX6_take_94 : decode cX6_take 94 = .ok (.iaload, 1) := by decide +kernel
theorem dX6_take_95 : decode cX6_take 95 = .ok (.aload_n 0, 1) := by decide +kernel
theorem dX6_take_96 : decode cX6_take 96 = .ok (.getfield 80, 3) := by decide +kernel
theorem dX6_take_99 : decode cX6_take 99 = .ok (.iconst 1, 1) := by decide +kernel
theorem dX6_take_100 : decode cX6_take 100 = .ok (.iaload, 1) := by decide +kernel
theorem dX6_take_101 : decode cX6_take 101 = .ok (.invokevirtual 155, 3) := by decide +kernel
theorem dX6_take_104 : decode cX6_take 104 = .ok (.goto 69, 3) := by decide +kernel
theorem dX6_take_107 : decode cX6_take 107 = .ok (.aload_n 0, 1) := by decide +kernel
theorem dX6_take_108 : decode cX6_take 108 = .ok (.getfield 80, 3) := by decide +kernel
theorem dX6_take_111 : decode cX6_take 111 = .ok (.iconst 0, 1) := by decide +kernel
theorem dX6_take_112 : decode cX6_take 112 = .ok (.iaload, 1) := by decide +kernel
theorem dX6_take_113 : decode cX6_take 113 = .ok (.iconst 4, 1) := by decide +kernel
theorem dX6_take_114 : decode cX6_take 114 = .ok (.if_icmp .ne 16, 3) := by decide +kernel
theorem dX6_take_117 : decode cX6_take 117 = .ok (.aload_n 0, 1) := by decide +kernel
theorem dX6_take_118 : decode cX6_take 118 = .ok (.aload_n 0, 1) := by decide +kernel
theorem dX6_take_119 : decode cX6_take 119 = .ok (.getfield 80, 3) := by decide +kernel
theorem dX6_take_122 : decode cX6_take 122 = .ok (.iconst 1, 1) := by decide +kernel
theorem dX6_take_123 : decode cX6_take 123 = .ok (.iaload, 1) := by decide +kernel
theorem dX6_take_124 : decode cX6_take 124 = .ok (.invokevirtual 158, 3) := by decide +kernel
theorem dX6_take_127 : decode cX6_take 127 = .ok (.goto 46, 3) := by decide +kernel
theorem dX6_take_130 : decode cX6_take 130 = .ok (.aload_n 0, 1) := by decide +kernel
theorem dX6_take_131 : decode cX6_take 131 = .ok (.getfield 68, 3) := by decide +kernel
theorem dX6_take_134 : decode cX6_take 134 = .ok (.aload_n 0, 1) := by decide +kernel
theorem dX6_take_135 : decode cX6_take 135 = .ok (.getfield 80, 3) := by decide +kernel
theorem dX6_take_138 : decode cX6_take 138 = .ok (.iconst 1, 1) := by decide +kernel
theorem dX6_take_139 : decode cX6_take 139 = .ok (.iaload, 1) := by decide +kernel
theorem dX6_take_140 : decode cX6_take 140 = .ok (.baload, 1) := by decide +kernel
theorem dX6_take_141 : decode cX6_take 141 = .ok (.ifCond .eq 16, 3) := by decide +kernel
theorem dX6_take_144 : decode cX6_take 144 = .ok (.aload_n 0, 1) := by decide +kernel
theorem dX6_take_145 : decode cX6_take 145 = .ok (.aload_n 0, 1) := by decide +kernel
theorem dX6_take_146 : decode cX6_take 146 = .ok (.getfield 80, 3) := by decide +kernel
theorem dX6_take_149 : decode cX6_take 149 = .ok (.iconst 1, 1) := by decide +kernel
theorem dX6_take_150 : decode cX6_take 150 = .ok (.iaload, 1) := by decide +kernel
theorem dX6_take_151 : decode cX6_take 151 = .ok (.invokevirtual 161, 3) := by decide +kernel
theorem dX6_take_154 : decode cX6_take 154 = .ok (.goto 19, 3) := by decide +kernel
theorem dX6_take_157 : decode cX6_take 157 = .ok (.aload_n 0, 1) := by decide +kernel
theorem dX6_take_158 : decode cX6_take 158 = .ok (.aload_n 0, 1) := by decide +kernel
theorem dX6_take_159 : decode cX6_take 159 = .ok (.getfield 80, 3) := by decide +kernel
theorem dX6_take_162 : decode cX6_take 162 = .ok (.iconst 1, 1) := by decide +kernel
theorem dX6_take_163 : decode cX6_take 163 = .ok (.iaload, 1) := by decide +kernel
theorem dX6_take_164 : decode cX6_take 164 = .ok (.aload_n 0, 1) := by decide +kernel
theorem dX6_take_165 : decode cX6_take 165 = .ok (.getfield 80, 3) := by decide +kernel
theorem dX6_take_168 : decode cX6_take 168 = .ok (.iconst 2, 1) := by decide +kernel
theorem dX6_take_169 : decode cX6_take 169 = .ok (.iaload, 1) := by decide +kernel
theorem dX6_take_170 : decode cX6_take 170 = .ok (.invokevirtual 164, 3) := by decide +kernel
theorem dX6_take_173 : decode cX6_take 173 = .ok (.return_, 1) := by decide +kernel
theorem dX6_enqueue_0 : decode cX6_enqueue 0 = .ok (.bipush 40, 2) := by decide +kernel
theorem dX6_enqueue_2 : decode cX6_enqueue 2 = .ok (.iload_n 1, 1) := by decide +kernel
theorem dX6_enqueue_3 : decode cX6_enqueue 3 = .ok (.imul, 1) := by decide +kernel
theorem dX6_enqueue_4 : decode cX6_enqueue 4 = .ok (.aload_n 0, 1) := by decide +kernel
theorem dX6_enqueue_5 : decode cX6_enqueue 5 = .ok (.getfield 74, 3) := by decide +kernel
theorem dX6_enqueue_8 : decode cX6_enqueue 8 = .ok (.iload_n 1, 1) := by decide +kernel
theorem dX6_enqueue_9 : decode cX6_enqueue 9 = .ok (.iaload, 1) := by decide +kernel
theorem dX6_enqueue_10 : decode cX6_enqueue 10 = .ok (.iadd, 1) := by decide +kernel
theorem dX6_enqueue_11 : decode cX6_enqueue 11 = .ok (.bipush 7, 2) := by decide +kernel
theorem dX6_enqueue_13 : decode cX6_enqueue 13 = .ok (.imul, 1) := by decide +kernel
theorem dX6_enqueue_14 : decode cX6_enqueue 14 = .ok (.istore_n 2, 1) := by decide +kernel
theorem dX6_enqueue_15 : decode cX6_enqueue 15 = .ok (.iconst 0, 1) := by decide +kernel
theorem dX6_enqueue_16 : decode cX6_enqueue 16 = .ok (.istore_n 3, 1) := by decide +kernel
theorem dX6_enqueue_17 : decode cX6_enqueue 17 = .ok (.iload_n 3, 1) := by decide +kernel
theorem dX6_enqueue_18 : decode cX6_enqueue 18 = .ok (.bipush 7, 2) := by decide +kernel
theorem dX6_enqueue_20 : decode cX6_enqueue 20 = .ok (.if_icmp .ge 23, 3) := by decide +kernel
theorem dX6_enqueue_23 : decode cX6_enqueue 23 = .ok (.aload_n 0, 1) := by decide +kernel
theorem dX6_enqueue_24 : decode cX6_enqueue 24 = .ok (.getfield 71, 3) := by decide +kernel
theorem dX6_enqueue_27 : decode cX6_enqueue 27 = .ok (.iload_n 2, 1) := by decide +kernel
theorem dX6_enqueue_28 : decode cX6_enqueue 28 = .ok (.iload_n 3, 1) := by decide +kernel
theorem dX6_enqueue_29 : decode cX6_enqueue 29 = .ok (.iadd, 1) := by decide +kernel
theorem dX6_enqueue_30 : decode cX6_enqueue 30 = .ok (.aload_n 0, 1) := by decide +kernel
theorem dX6_enqueue_31 : decode cX6_enqueue 31 = .ok (.getfield 80, 3) := by decide +kernel
theorem dX6_enqueue_34 : decode cX6_enqueue 34 = .ok (.iload_n 3, 1) := by decide +kernel
theorem dX6_enqueue_35 : decode cX6_enqueue 35 = .ok (.iaload, 1) := by decide +kernel
theorem dX6_enqueue_36 : decode cX6_enqueue 36 = .ok (.iastore, 1) := by decide +kernel
theorem dX6_enqueue_37 : decode cX6_enqueue 37 = .ok (.iinc 3 1, 3) := by decide +kernel
theorem dX6_enqueue_40 : decode cX6_enqueue 40 = .ok (.goto (-23), 3) := by decide +kernel
theorem dX6_enqueue_43 : decode cX6_enqueue 43 = .ok (.aload_n 0, 1) := by decide +kernel
theorem dX6_enqueue_44 : decode cX6_enqueue 44 = .ok (.getfield 74, 3) := by decide +kernel
theorem dX6_enqueue_47 : decode cX6_enqueue 47 = .ok (.iload_n 1, 1) := by decide +kernel
theorem dX6_enqueue_48 : decode cX6_enqueue 48 = .ok (.dup2, 1) := by decide +kernel
theorem dX6_enqueue_49 : decode cX6_enqueue 49 = .ok (.iaload, 1) := by decide +kernel
theorem dX6_enqueue_50 : decode cX6_enqueue 50 = .ok (.iconst 1, 1) := by decide +kernel
theorem dX6_enqueue_51 : decode cX6_enqueue 51 = .ok (.iadd, 1) := by decide +kernel
theorem dX6_enqueue_52 : decode cX6_enqueue 52 = .ok (.iastore, 1) := by decide +kernel
theorem dX6_enqueue_53 : decode cX6_enqueue 53 = .ok (.return_, 1) := by decide +kernel
set_option maxRecDepth 20000 in
theorem ggX6_free_X6_process : GoodIn wsX6_free wsX6_process := goodIn_r _ [9, 10, 3, 11, 12, 13, 14, 1, 15, 16, 17, 8, 18, 19, 20, 21, 22, 23, 24, 25, 26, 27, 28, 29, 30, 31, 32, 33, 34, 35, 36, 37, 38, 39, 40, 41, 42, 43, 44, 45, 46, 47, 48, 49] (by decide +kernel) (by decide +kernel)
set_option maxRecDepth 20000 in
theorem gX6_free_X6_process : GoodIn wsX6_free (wsV RX6 164 RX6 yX6_process wsX6_process) := goodIn_app (goodIn_of _ (by decide +kernel)) ggX6_free_X6_process
theorem dX6_free_0 : decode cX6_free 0 = .ok (.aload_n 0, 1) := by decide +kernel
theorem dX6_free_1 : decode cX6_free 1 = .ok (.getfield 68, 3) := by decide +kernel
theorem dX6_free_4 : decode cX6_free 4 = .ok (.iload_n 1, 1) := by decide +kernel
theorem dX6_free_5 : decode cX6_free 5 = .ok (.iconst 0, 1) := by decide +kernel
theorem dX6_free_6 : decode cX6_free 6 = .ok (.bastore, 1) := by decide +kernel
theorem dX6_free_7 : decode cX6_free 7 = .ok (.bipush 40, 2) := by decide +kernel
theorem dX6_free_9 : decode cX6_free 9 = .ok (.iload_n 1, 1) := by decide +kernel
theorem dX6_free_10 : decode cX6_free 10 = .ok (.imul, 1) := by decide +kernel
theorem dX6_free_11 : decode cX6_free 11 = .ok (.bipush 7, 2) := by decide +kernel
theorem dX6_free_13 : decode cX6_free 13 = .ok (.imul, 1) := by decide +kernel
theorem dX6_free_14 : decode cX6_free 14 = .ok (.istore_n 2, 1) := by decide +kernel
theorem dX6_free_15 : decode cX6_free 15 = .ok (.aload_n 0, 1) := by decide +kernel
theorem dX6_free_16 : decode cX6_free 16 = .ok (.getfield 68, 3) := by decide +kernel
theorem dX6_free_19 : decode cX6_free 19 = .ok (.iload_n 1, 1) := by decide +kernel
theorem dX6_free_20 : decode cX6_free 20 = .ok (.baload, 1) := by decide +kernel
theorem dX6_free_21 : decode cX6_free 21 = .ok (.ifCond .ne 102, 3) := by decide +kernel
theorem dX6_free_24 : decode cX6_free 24 = .ok (.aload_n 0, 1) := by decide +kernel
theorem dX6_free_25 : decode cX6_free 25 = .ok (.getfield 74, 3) := by decide +kernel
theorem dX6_free_28 : decode cX6_free 28 = .ok (.iload_n 1, 1) := by decide +kernel
theorem dX6_free_29 : decode cX6_free 29 = .ok (.iaload, 1) := by decide +kernel
theorem dX6_free_30 : decode cX6_free 30 = .ok (.ifCond .le 93, 3) := by decide +kernel
theorem dX6_free_33 : decode cX6_free 33 = .ok (.iconst 0, 1) := by decide +kernel
theorem dX6_free_34 : decode cX6_free 34 = .ok (.istore_n 3, 1) := by decide +kernel
theorem dX6_free_35 : decode cX6_free 35 = .ok (.iload_n 3, 1) := by decide +kernel
theorem dX6_free_36 : decode cX6_free 36 = .ok (.bipush 7, 2) := by decide +kernel
theorem dX6_free_38 : decode cX6_free 38 = .ok (.if_icmp .ge 23, 3) := by decide +kernel
theorem dX6_free_41 : decode cX6_free 41 = .ok (.aload_n 0, 1) := by decide +kernel
theorem dX6_free_42 : decode cX6_free 42 = .ok (.getfield 80, 3) := by decide +kernel
theorem dX6_free_45 : decode cX6_free 45 = .ok (.iload_n 3, 1) := by decide +kernel
theorem dX6_free_46 : decode cX6_free 46 = .ok (.aload_n 0, 1) := by decide +kernel
theorem dX6_free_47 : decode cX6_free 47 = .ok (.getfield 71, 3) := by decide +kernel
theorem dX6_free_50 : decode cX6_free 50 = .ok (.iload_n 2, 1) := by decide +kernel
theorem dX6_free_51 : decode cX6_free 51 = .ok (.iload_n 3, 1) := by decide +kernel
theorem dX6_free_52 : decode cX6_free 52 = .ok (.iadd, 1) := by decide +kernel
theorem dX6_free_53 : decode cX6_free 53 = .ok (.iaload, 1) := by decide +kernel
theorem dX6_free_54 : decode cX6_free 54 = .ok (.iastore, 1) := by decide +kernel
theorem dX6_free_55 : decode cX6_free 55 = .ok (.iinc 3 1, 3) := by decide +kernel
theorem dX6_free_58 : decode cX6_free 58 = .ok (.goto (-23), 3) := by decide +kernel
theorem dX6_free_61 : decode cX6_free 61 = .ok (.aload_n 0, 1) := by decide +kernel
theorem dX6_free_62 : decode cX6_free 62 = .ok (.getfield 74, 3) := by decide +kernel
theorem dX6_free_65 : decode cX6_free 65 = .ok (.iload_n 1, 1) := by decide +kernel
theorem dX6_free_66 : decode cX6_free 66 = .ok (.dup2, 1) := by decide +kernel
theorem dX6_free_67 : decode cX6_free 67 = .ok (.iaload, 1) := by decide +kernel
theorem dX6_free_68 : decode cX6_free 68 = .ok (.iconst 1, 1) := by decide +kernel
theorem dX6_free_69 : decode cX6_free 69 = .ok (.isub, 1) := by decide +kernel
theorem dX6_free_70 : decode cX6_free 70 = .ok (.iastore, 1) := by decide +kernel
theorem dX6_free_71 : decode cX6_free 71 = .ok (.iload_n 2, 1) := by decide +kernel
theorem dX6_free_72 : decode cX6_free 72 = .ok (.istore_n 3, 1) := by decide +kernel
theorem dX6_free_73 : decode cX6_free 73 = .ok (.iload_n 3, 1) := by decide +kernel
theorem dX6_free_74 : decode cX6_free 74 = .ok (.iload_n 2, 1) := by decide +kernel
theorem dX6_free_75 : decode cX6_free 75 = .ok (.bipush 7, 2) := by decide +kernel
theorem dX6_free_77 : decode cX6_free 77 = .ok (.aload_n 0, 1) := by decide +kernel
theorem dX6_free_78 : decode cX6_free 78 = .ok (.getfield 74, 3) := by decide +kernel
theorem dX6_free_81 : decode cX6_free 81 = .ok (.iload_n 1, 1) := by decide +kernel
theorem dX6_free_82 : decode cX6_free 82 = .ok (.iaload, 1) := by decide +kernel
theorem dX6_free_83 : decode cX6_free 83 = .ok (.imul, 1) := by decide +kernel
theorem dX6_free_84 : decode cX6_free 84 = .ok (.iadd, 1) := by decide +kernel
theorem dX6_free_85 : decode cX6_free 85 = .ok (.if_icmp .ge 24, 3) := by decide +kernel
theorem dX6_free_88 : decode cX6_free 88 = .ok (.aload_n 0, 1) := by decide +kernel
theorem dX6_free_89 : decode cX6_free 89 = .ok (.getfield 71, 3) := by decide +kernel
theorem dX6_free_92 : decode cX6_free 92 = .ok (.iload_n 3, 1) := by decide +kernel
theorem dX6_free_93 : decode cX6_free 93 = .ok (.aload_n 0, 1) := by decide +kernel
theorem dX6_free_94 : decode cX6_free 94 = .ok (.getfield 71, 3) := by decide +kernel
theorem dX6_free_97 : decode cX6_free 97 = .ok (.iload_n 3, 1) := by decide +kernel
theorem dX6_free_98 : decode cX6_free 98 = .ok (.bipush 7, 2) := by decide +kernel
theorem dX6_free_100 : decode cX6_free 100 = .ok (.iadd, 1) := by decide +kernel
theorem dX6_free_101 : decode cX6_free 101 = .ok (.iaload, 1) := by decide +kernel
theorem dX6_free_102 : decode cX6_free 102 = .ok (.iastore, 1) := by decide +kernel
theorem dX6_free_103 : decode cX6_free 103 = .ok (.iinc 3 1, 3) := by decide +kernel
theorem dX6_free_106 : decode cX6_free 106 = .ok (.goto (-33), 3) := by decide +kernel
theorem dX6_free_109 : decode cX6_free 109 = .ok (.aload_n 0, 1) := by decide +kernel
theorem dX6_free_110 : decode cX6_free 110 = .ok (.iload_n 1, 1) := by decide +kernel
theorem dX6_free_111 : decode cX6_free 111 = .ok (.aload_n 0, 1) := by decide +kernel
theorem dX6_free_112 : decode cX6_free 112 = .ok (.getfield 80, 3) := by decide +kernel
theorem dX6_free_115 : decode cX6_free 115 = .ok (.iconst 2, 1) := by decide +kernel
theorem dX6_free_116 : decode cX6_free 116 = .ok (.iaload, 1) := by decide +kernel
theorem dX6_free_117 : decode cX6_free 117 = .ok (.invokevirtual 164, 3) := by decide +kernel
theorem dX6_free_120 : decode cX6_free 120 = .ok (.goto (-105), 3) := by decide +kernel
theorem dX6_free_123 : decode cX6_free 123 = .ok (.return_, 1) := by decide +kernel
set_option maxRecDepth 20000 in
theorem ggX6_process_X6_send : GoodIn wsX6_process wsX6_send := goodIn_r _ [12, 13, 14, 15, 16, 17, 18, 19, 20, 21, 22, 23, 24, 25, 26, 27, 28, 29, 30, 31, 32, 33, 34, 35, 36, 37, 38, 39, 40, 41, 42, 43] (by decide +kernel) (by decide +kernel)
set_option maxRecDepth 20000 in
theorem gX6_process_X6_send : GoodIn wsX6_process (wsV RX6 111 RX6 yX6_send wsX6_send) := goodIn_app (goodIn_of _ (by decide +kernel)) ggX6_process_X6_send
theorem dX6_process_0 : decode cX6_process 0 = .ok (.aload_n 0, 1) := by decide +kernel
theorem dX6_process_1 : decode cX6_process 1 = .ok (.getfield 62, 3) := by decide +kernel
theorem dX6_process_4 : decode cX6_process 4 = .ok (.iload_n 1, 1) := by decide +kernel
theorem dX6_process_5 : decode cX6_process 5 = .ok (.iaload, 1) := by decide +kernel
theorem dX6_process_6 : decode cX6_process 6 = .ok (.istore_n 3, 1) := by decide +kernel
theorem dX6_process_7 : decode cX6_process 7 = .ok (.aload_n 0, 1) := by decide +kernel
theorem dX6_process_8 : decode cX6_process 8 = .ok (.getfield 80, 3) := by decide +kernel
theorem dX6_process_11 : decode cX6_process 11 = .ok (.iconst 0, 1) := by decide +kernel
theorem dX6_process_12 : decode cX6_process 12 = .ok (.iaload, 1) := by decide +kernel
theorem dX6_process_13 : decode cX6_process 13 = .ok (.iconst 3, 1) := by decide +kernel
theorem dX6_process_14 : decode cX6_process 14 = .ok (.if_icmp .ne 77, 3) := by decide +kernel
theorem dX6_process_17 : decode cX6_process 17 = .ok (.iload_n 3, 1) := by decide +kernel
theorem dX6_process_18 : decode cX6_process 18 = .ok (.iload_n 2, 1) := by decide +kernel
theorem dX6_process_19 : decode cX6_process 19 = .ok (.if_icmp .ne 49, 3) := by decide +kernel
theorem dX6_process_22 : decode cX6_process 22 = .ok (.aload_n 0, 1) := by decide +kernel
theorem dX6_process_23 : decode cX6_process 23 = .ok (.getfield 59, 3) := by decide +kernel
theorem dX6_process_26 : decode cX6_process 26 = .ok (.iload_n 1, 1) := by decide +kernel
theorem dX6_process_27 : decode cX6_process 27 = .ok (.aload_n 0, 1) := by decide +kernel
theorem dX6_process_28 : decode cX6_process 28 = .ok (.getfield 80, 3) := by decide +kernel
theorem dX6_process_31 : decode cX6_process 31 = .ok (.iconst 4, 1) := by decide +kernel
theorem dX6_process_32 : decode cX6_process 32 = .ok (.iaload, 1) := by decide +kernel
theorem dX6_process_33 : decode cX6_process 33 = .ok (.iastore, 1) := by decide +kernel
theorem dX6_process_34 : decode cX6_process 34 = .ok (.aload_n 0, 1) := by decide +kernel
theorem dX6_process_35 : decode cX6_process 35 = .ok (.getfield 62, 3) := by decide +kernel
theorem dX6_process_38 : decode cX6_process 38 = .ok (.iload_n 1, 1) := by decide +kernel
theorem dX6_process_39 : decode cX6_process 39 = .ok (.iconst (-1), 1) := by decide +kernel
theorem dX6_process_40 : decode cX6_process 40 = .ok (.iastore, 1) := by decide +kernel
theorem dX6_process_41 : decode cX6_process 41 = .ok (.aload_n 0, 1) := by decide +kernel
theorem dX6_process_42 : decode cX6_process 42 = .ok (.getfield 65, 3) := by decide +kernel
theorem dX6_process_45 : decode cX6_process 45 = .ok (.iload_n 1, 1) := by decide +kernel
theorem dX6_process_46 : decode cX6_process 46 = .ok (.dup2, 1) := by decide +kernel
theorem dX6_process_47 : decode cX6_process 47 = .ok (.iaload, 1) := by decide +kernel
theorem dX6_process_48 : decode cX6_process 48 = .ok (.iconst 1, 1) := by decide +kernel
theorem dX6_process_49 : decode cX6_process 49 = .ok (.iload_n 2, 1) := by decide +kernel
theorem dX6_process_50 : decode cX6_process 50 = .ok (.ishl, 1) := by decide +kernel
theorem dX6_process_51 : decode cX6_process 51 = .ok (.iconst (-1), 1) := by decide +kernel
theorem dX6_process_52 : decode cX6_process 52 = .ok (.ixor, 1) := by decide +kernel
theorem dX6_process_53 : decode cX6_process 53 = .ok (.iand, 1) := by decide +kernel
theorem dX6_process_54 : decode cX6_process 54 = .ok (.iastore, 1) := by decide +kernel
theorem dX6_process_55 : decode cX6_process 55 = .ok (.aload_n 0, 1) := by decide +kernel
theorem dX6_process_56 : decode cX6_process 56 = .ok (.dup, 1) := by decide +kernel
theorem dX6_process_57 : decode cX6_process 57 = .ok (.getfield 167, 3) := by decide +kernel
theorem dX6_process_60 : decode cX6_process 60 = .ok (.iconst 1, 1) := by decide +kernel
theorem dX6_process_61 : decode cX6_process 61 = .ok (.iadd, 1) := by decide +kernel
theorem dX6_process_62 : decode cX6_process 62 = .ok (.putfield 167, 3) := by decide +kernel
theorem dX6_process_65 : decode cX6_process 65 = .ok (.goto 13, 3) := by decide +kernel
theorem dX6_process_68 : decode cX6_process 68 = .ok (.aload_n 0, 1) := by decide +kernel
theorem dX6_process_69 : decode cX6_process 69 = .ok (.dup, 1) := by decide +kernel
theorem dX6_process_70 : decode cX6_process 70 = .ok (.getfield 170, 3) := by decide +kernel
theorem dX6_process_73 : decode cX6_process 73 = .ok (.iconst 1, 1) := by decide +kernel
theorem dX6_process_74 : decode cX6_process 74 = .ok (.iadd, 1) := by decide +kernel
theorem dX6_process_75 : decode cX6_process 75 = .ok (.putfield 170, 3) := by decide +kernel
theorem dX6_process_78 : decode cX6_process 78 = .ok (.aload_n 0, 1) := by decide +kernel
theorem dX6_process_79 : decode cX6_process 79 = .ok (.bipush 11, 2) := by decide +kernel
theorem dX6_process_81 : decode cX6_process 81 = .ok (.iload_n 1, 1) := by decide +kernel
theorem dX6_process_82 : decode cX6_process 82 = .ok (.iconst (-1), 1) := by decide +kernel
theorem dX6_process_83 : decode cX6_process 83 = .ok (.iload_n 2, 1) := by decide +kernel
theorem dX6_process_84 : decode cX6_process 84 = .ok (.iconst 0, 1) := by decide +kernel
theorem dX6_process_85 : decode cX6_process 85 = .ok (.iconst 0, 1) := by decide +kernel
theorem dX6_process_86 : decode cX6_process 86 = .ok (.iconst (-1), 1) := by decide +kernel
theorem dX6_process_87 : decode cX6_process 87 = .ok (.invokevirtual 111, 3) := by decide +kernel
theorem dX6_process_90 : decode cX6_process 90 = .ok (.return_, 1) := by decide +kernel
theorem dX6_process_91 : decode cX6_process 91 = .ok (.aload_n 0, 1) := by decide +kernel
theorem dX6_process_92 : decode cX6_process 92 = .ok (.getfield 68, 3) := by decide +kernel
theorem dX6_process_95 : decode cX6_process 95 = .ok (.iload_n 1, 1) := by decide +kernel
theorem dX6_process_96 : decode cX6_process 96 = .ok (.iconst 1, 1) := by decide +kernel
theorem dX6_process_97 : decode cX6_process 97 = .ok (.bastore, 1) := by decide +kernel
theorem dX6_process_98 : decode cX6_process 98 = .ok (.aload_n 0, 1) := by decide +kernel
theorem dX6_process_99 : decode cX6_process 99 = .ok (.getfield 80, 3) := by decide +kernel
theorem dX6_process_102 : decode cX6_process 102 = .ok (.iconst 0, 1) := by decide +kernel
theorem dX6_process_103 : decode cX6_process 103 = .ok (.iaload, 1) := by decide +kernel
theorem dX6_process_104 : decode cX6_process 104 = .ok (.iconst 1, 1) := by decide +kernel
theorem dX6_process_105 : decode cX6_process 105 = .ok (.if_icmp .ne 52, 3) := by decide +kernel
theorem dX6_process_108 : decode cX6_process 108 = .ok (.aload_n 0, 1) := by decide +kernel
theorem dX6_process_109 : decode cX6_process 109 = .ok (.getfield 65, 3) := by decide +kernel
theorem dX6_process_112 : decode cX6_process 112 = .ok (.iload_n 1, 1) := by decide +kernel
theorem dX6_process_113 : decode cX6_process 113 = .ok (.dup2, 1) := by decide +kernel
theorem dX6_process_114 : decode cX6_process 114 = .ok (.iaload, 1) := by decide +kernel
theorem dX6_process_115 : decode cX6_process 115 = .ok (.iconst 1, 1) := by decide +kernel
theorem dX6_process_116 : decode cX6_process 116 = .ok (.iload_n 2, 1) := by decide +kernel
theorem dX6_process_117 : decode cX6_process 117 = .ok (.ishl, 1) := by decide +kernel
theorem dX6_process_118 : decode cX6_process 118 = .ok (.ior, 1) := by decide +kernel
theorem dX6_process_119 : decode cX6_process 119 = .ok (.iastore, 1) := by decide +kernel
theorem dX6_process_120 : decode cX6_process 120 = .ok (.iload_n 3, 1) := by decide +kernel
theorem dX6_process_121 : decode cX6_process 121 = .ok (.iconst (-1), 1) := by decide +kernel
theorem dX6_process_122 : decode cX6_process 122 = .ok (.if_icmp .ne 22, 3) := by decide +kernel
theorem dX6_process_125 : decode cX6_process 125 = .ok (.aload_n 0, 1) := by decide +kernel
theorem dX6_process_126 : decode cX6_process 126 = .ok (.iconst 5, 1) := by decide +kernel
theorem dX6_process_127 : decode cX6_process 127 = .ok (.iload_n 1, 1) := by decide +kernel
theorem dX6_process_128 : decode cX6_process 128 = .ok (.iconst (-1), 1) := by decide +kernel
theorem dX6_process_129 : decode cX6_process 129 = .ok (.iload_n 2, 1) := by decide +kernel
theorem dX6_process_130 : decode cX6_process 130 = .ok (.aload_n 0, 1) := by decide +kernel
theorem dX6_process_131 : decode cX6_process 131 = .ok (.getfield 59, 3) := by decide +kernel
theorem dX6_process_134 : decode cX6_process 134 = .ok (.iload_n 1, 1) := by decide +kernel
theorem dX6_process_135 : decode cX6_process 135 = .ok (.iaload, 1) := by decide +kernel
theorem dX6_process_136 : decode cX6_process 136 = .ok (.iconst 0, 1) := by decide +kernel
theorem dX6_process_137 : decode cX6_process 137 = .ok (.iconst (-1), 1) := by decide +kernel
theorem dX6_process_138 : decode cX6_process 138 = .ok (.invokevirtual 111, 3) := by decide +kernel
theorem dX6_process_141 : decode cX6_process 141 = .ok (.goto 15, 3) := by decide +kernel
theorem dX6_process_144 : decode cX6_process 144 = .ok (.aload_n 0, 1) := by decide +kernel
theorem dX6_process_145 : decode cX6_process 145 = .ok (.bipush 8, 2) := by decide +kernel
theorem dX6_process_147 : decode cX6_process 147 = .ok (.iload_n 1, 1) := by decide +kernel
theorem dX6_process_148 : decode cX6_process 148 = .ok (.iconst (-1), 1) := by decide +kernel
theorem dX6_process_149 : decode cX6_process 149 = .ok (.iload_n 3, 1) := by decide +kernel
theorem dX6_process_150 : decode cX6_process 150 = .ok (.iconst 0, 1) := by decide +kernel
theorem dX6_process_151 : decode cX6_process 151 = .ok (.iconst 0, 1) := by decide +kernel
theorem dX6_process_152 : decode cX6_process 152 = .ok (.iload_n 2, 1) := by decide +kernel
theorem dX6_process_153 : decode cX6_process 153 = .ok (.invokevirtual 111, 3) := by decide +kernel
theorem dX6_process_156 : decode cX6_process 156 = .ok (.return_, 1) := by decide +kernel
theorem dX6_process_157 : decode cX6_process 157 = .ok (.iconst 0, 1) := by decide +kernel
theorem dX6_process_158 : decode cX6_process 158 = .ok (.istore 4, 2) := by decide +kernel
theorem dX6_process_160 : decode cX6_process 160 = .ok (.iconst 0, 1) := by decide +kernel
theorem dX6_process_161 : decode cX6_process 161 = .ok (.istore 5, 2) := by decide +kernel
theorem dX6_process_163 : decode cX6_process 163 = .ok (.iload 5, 2) := by decide +kernel
theorem dX6_process_165 : decode cX6_process 165 = .ok (.iconst 4, 1) := by decide +kernel
theorem dX6_process_166 : decode cX6_process 166 = .ok (.if_icmp .ge 54, 3) := by decide +kernel
theorem dX6_process_169 : decode cX6_process 169 = .ok (.aload_n 0, 1) := by decide +kernel
theorem dX6_process_170 : decode cX6_process 170 = .ok (.getfield 65, 3) := by decide +kernel
theorem dX6_process_173 : decode cX6_process 173 = .ok (.iload_n 1, 1) := by decide +kernel
theorem dX6_process_174 : decode cX6_process 174 = .ok (.iaload, 1) := by decide +kernel
theorem dX6_process_175 : decode cX6_process 175 = .ok (.iload 5, 2) := by decide +kernel
theorem dX6_process_177 : decode cX6_process 177 = .ok (.ishr, 1) := by decide +kernel
theorem dX6_process_178 : decode cX6_process 178 = .ok (.iconst 1, 1) := by decide +kernel
theorem dX6_process_179 : decode cX6_process 179 = .ok (.iand, 1) := by decide +kernel
theorem dX6_process_180 : decode cX6_process 180 = .ok (.ifCond .eq 34, 3) := by decide +kernel
theorem dX6_process_183 : decode cX6_process 183 = .ok (.iload 5, 2) := by decide +kernel
theorem dX6_process_185 : decode cX6_process 185 = .ok (.iload_n 2, 1) := by decide +kernel
theorem dX6_process_186 : decode cX6_process 186 = .ok (.if_icmp .eq 28, 3) := by decide +kernel
theorem dX6_process_189 : decode cX6_process 189 = .ok (.iload 5, 2) := by decide +kernel
theorem dX6_process_191 : decode cX6_process 191 = .ok (.iload_n 3, 1) := by decide +kernel
theorem dX6_process_192 : decode cX6_process 192 = .ok (.if_icmp .ne 6, 3) := by decide +kernel
theorem dX6_process_195 : decode cX6_process 195 = .ok (.goto 19, 3) := by decide +kernel
theorem dX6_process_198 : decode cX6_process 198 = .ok (.aload_n 0, 1) := by decide +kernel
theorem dX6_process_199 : decode cX6_process 199 = .ok (.bipush 10, 2) := by decide +kernel
theorem dX6_process_201 : decode cX6_process 201 = .ok (.iload_n 1, 1) := by decide +kernel
theorem dX6_process_202 : decode cX6_process 202 = .ok (.iconst (-1), 1) := by decide +kernel
theorem dX6_process_203 : decode cX6_process 203 = .ok (.iload 5, 2) := by decide +kernel
theorem dX6_process_205 : decode cX6_process 205 = .ok (.iconst 0, 1) := by decide +kernel
theorem dX6_process_206 : decode cX6_process 206 = .ok (.iconst 0, 1) := by decide +kernel
theorem dX6_process_207 : decode cX6_process 207 = .ok (.iload_n 2, 1) := by decide +kernel
theorem dX6_process_208 : decode cX6_process 208 = .ok (.invokevirtual 111, 3) := by decide +kernel
theorem dX6_process_211 : decode cX6_process 211 = .ok (.iinc 4 1, 3) := by decide +kernel
theorem dX6_process_214 : decode cX6_process 214 = .ok (.iinc 5 1, 3) := by decide +kernel
theorem dX6_process_217 : decode cX6_process 217 = .ok (.goto (-54), 3) := by decide +kernel
theorem dX6_process_220 : decode cX6_process 220 = .ok (.iload_n 3, 1) := by decide +kernel
theorem dX6_process_221 : decode cX6_process 221 = .ok (.iconst (-1), 1) := by decide +kernel
theorem dX6_process_222 : decode cX6_process 222 = .ok (.if_icmp .ne 23, 3) := by decide +kernel
theorem dX6_process_225 : decode cX6_process 225 = .ok (.aload_n 0, 1) := by decide +kernel
theorem dX6_process_226 : decode cX6_process 226 = .ok (.iconst 5, 1) := by decide +kernel
theorem dX6_process_227 : decode cX6_process 227 = .ok (.iload_n 1, 1) := by decide +kernel
theorem dX6_process_228 : decode cX6_process 228 = .ok (.iconst (-1), 1) := by decide +kernel
theorem dX6_process_229 : decode cX6_process 229 = .ok (.iload_n 2, 1) := by decide +kernel
theorem dX6_process_230 : decode cX6_process 230 = .ok (.aload_n 0, 1) := by decide +kernel
theorem dX6_process_231 : decode cX6_process 231 = .ok (.getfield 59, 3) := by decide +kernel
theorem dX6_process_234 : decode cX6_process 234 = .ok (.iload_n 1, 1) := by decide +kernel
theorem dX6_process_235 : decode cX6_process 235 = .ok (.iaload, 1) := by decide +kernel
theorem dX6_process_236 : decode cX6_process 236 = .ok (.iload 4, 2) := by decide +kernel
theorem dX6_process_238 : decode cX6_process 238 = .ok (.iconst (-1), 1) := by decide +kernel
theorem dX6_process_239 : decode cX6_process 239 = .ok (.invokevirtual 111, 3) := by decide +kernel
theorem dX6_process_242 : decode cX6_process 242 = .ok (.goto 37, 3) := by decide +kernel
theorem dX6_process_245 : decode cX6_process 245 = .ok (.iload_n 3, 1) := by decide +kernel
theorem dX6_process_246 : decode cX6_process 246 = .ok (.iload_n 2, 1) := by decide +kernel
theorem dX6_process_247 : decode cX6_process 247 = .ok (.if_icmp .ne 19, 3) := by decide +kernel
theorem dX6_process_250 : decode cX6_process 250 = .ok (.aload_n 0, 1) := by decide +kernel
theorem dX6_process_251 : decode cX6_process 251 = .ok (.bipush 6, 2) := by decide +kernel
theorem dX6_process_253 : decode cX6_process 253 = .ok (.iload_n 1, 1) := by decide +kernel
theorem dX6_process_254 : decode cX6_process 254 = .ok (.iconst (-1), 1) := by decide +kernel
theorem dX6_process_255 : decode cX6_process 255 = .ok (.iload_n 2, 1) := by decide +kernel
theorem dX6_process_256 : decode cX6_process 256 = .ok (.iconst 0, 1) := by decide +kernel
theorem dX6_process_257 : decode cX6_process 257 = .ok (.iload 4, 2) := by decide +kernel
theorem dX6_process_259 : decode cX6_process 259 = .ok (.iconst (-1), 1) := by decide +kernel
theorem dX6_process_260 : decode cX6_process 260 = .ok (.invokevirtual 111, 3) := by decide +kernel
theorem dX6_process_263 : decode cX6_process 263 = .ok (.goto 16, 3) := by decide +kernel
theorem dX6_process_266 : decode cX6_process 266 = .ok (.aload_n 0, 1) := by decide +kernel
theorem dX6_process_267 : decode cX6_process 267 = .ok (.bipush 9, 2) := by decide +kernel
theorem dX6_process_269 : decode cX6_process 269 = .ok (.iload_n 1, 1) := by decide +kernel
theorem dX6_process_270 : decode cX6_process 270 = .ok (.iconst (-1), 1) := by decide +kernel
theorem dX6_process_271 : decode cX6_process 271 = .ok (.iload_n 3, 1) := by decide +kernel
theorem dX6_process_272 : decode cX6_process 272 = .ok (.iconst 0, 1) := by decide +kernel
theorem dX6_process_273 : decode cX6_process 273 = .ok (.iload 4, 2) := by decide +kernel
theorem dX6_process_275 : decode cX6_process 275 = .ok (.iload_n 2, 1) := by decide +kernel
theorem dX6_process_276 : decode cX6_process 276 = .ok (.invokevirtual 111, 3) := by decide +kernel
theorem dX6_process_279 : decode cX6_process 279 = .ok (.aload_n 0, 1) := by decide +kernel
theorem dX6_process_280 : decode cX6_process 280 = .ok (.getfield 62, 3) := by decide +kernel
theorem dX6_process_283 : decode cX6_process 283 = .ok (.iload_n 1, 1) := by decide +kernel
theorem dX6_process_284 : decode cX6_process 284 = .ok (.iload_n 2, 1) := by decide +kernel
theorem dX6_process_285 : decode cX6_process 285 = .ok (.iastore, 1) := by decide +kernel
theorem dX6_process_286 : decode cX6_process 286 = .ok (.aload_n 0, 1) := by decide +kernel
theorem dX6_process_287 : decode cX6_process 287 = .ok (.getfield 65, 3) := by decide +kernel
theorem dX6_process_290 : decode cX6_process 290 = .ok (.iload_n 1, 1) := by decide +kernel
theorem dX6_process_291 : decode cX6_process 291 = .ok (.iconst 0, 1) := by decide +kernel
theorem dX6_process_292 : decode cX6_process 292 = .ok (.iastore, 1) := by decide +kernel
theorem dX6_process_293 : decode cX6_process 293 = .ok (.return_, 1) := by decide +kernel
set_option maxRecDepth 20000 in
theorem ggX6_receive_X6_at : GoodIn wsX6_receive wsX6_at := goodIn_r _ [12] (by decide +kernel) (by decide +kernel)
set_option maxRecDepth 20000 in
theorem gX6_receive_X6_at : GoodIn wsX6_receive (va_wsS RX6 87 yX6_at wsX6_at) := goodIn_app (goodIn_of _ (by decide +kernel)) ggX6_receive_X6_at
set_option maxRecDepth 20000 in
theorem ggX6_receive_X6_complete : GoodIn wsX6_receive wsX6_complete := goodIn_r _ [16, 5, 8, 7, 17, 1, 18, 2, 19, 6, 20, 9, 10, 11, 12, 21, 22, 23, 24, 25, 26, 27, 28, 29, 30, 31, 32, 33, 34, 35, 36, 37, 38, 39, 40, 41, 42, 43, 44, 45, 46, 47, 48, 49, 50, 51, 52, 53, 54, 55, 56, 57, 58, 59, 60, 61] (by decide +kernel) (by decide +kernel)
set_option maxRecDepth 20000 in
theorem gX6_receive_X6_complete : GoodIn wsX6_receive (wsV RX6 173 RX6 yX6_complete wsX6_complete) := goodIn_app (goodIn_of _ (by decide +kernel)) ggX6_receive_X6_complete
set_option maxRecDepth 20000 in
theorem ggX6_receive_X6_send : GoodIn wsX6_receive wsX6_send := goodIn_r _ [30, 31, 32, 33, 34, 35, 36, 37, 38, 39, 40, 41, 42, 43, 44, 45, 46, 47, 48, 49, 50, 51, 52, 53, 54, 55, 56, 57, 58, 59, 60, 61] (by decide +kernel) (by decide +kernel)
set_option maxRecDepth 20000 in
theorem gX6_receive_X6_send : GoodIn wsX6_receive (wsV RX6 111 RX6 yX6_send wsX6_send) := goodIn_app (goodIn_of _ (by decide +kernel)) ggX6_receive_X6_send
theorem dX6_receive_0 : decode cX6_receive 0 = .ok (.iload_n 1, 1) := by decide +kernel
theorem dX6_receive_1 : decode cX6_receive 1 = .ok (.iload_n 2, 1) := by decide +kernel
theorem dX6_receive_2 : decode cX6_receive 2 = .ok (.invokestatic 87, 3) := by decide +kernel
theorem dX6_receive_5 : decode cX6_receive 5 = .ok (.istore_n 3, 1) := by decide +kernel
theorem dX6_receive_6 : decode cX6_receive 6 = .ok (.aload_n 0, 1) := by decide +kernel
theorem dX6_receive_7 : decode cX6_receive 7 = .ok (.getfield 16, 3) := by decide +kernel
theorem dX6_receive_10 : decode cX6_receive 10 = .ok (.iload_n 3, 1) := by decide +kernel
theorem dX6_receive_11 : decode cX6_receive 11 = .ok (.iaload, 1) := by decide +kernel
theorem dX6_receive_12 : decode cX6_receive 12 = .ok (.ifCond .le 12, 3) := by decide +kernel
theorem dX6_receive_15 : decode cX6_receive 15 = .ok (.aload_n 0, 1) := by decide +kernel
theorem dX6_receive_16 : decode cX6_receive 16 = .ok (.getfield 19, 3) := by decide +kernel
theorem dX6_receive_19 : decode cX6_receive 19 = .ok (.iload_n 3, 1) := by decide +kernel
theorem dX6_receive_20 : decode cX6_receive 20 = .ok (.iaload, 1) := by decide +kernel
theorem dX6_receive_21 : decode cX6_receive 21 = .ok (.goto 9, 3) := by decide +kernel
theorem dX6_receive_24 : decode cX6_receive 24 = .ok (.aload_n 0, 1) := by decide +kernel
theorem dX6_receive_25 : decode cX6_receive 25 = .ok (.getfield 25, 3) := by decide +kernel
theorem dX6_receive_28 : decode cX6_receive 28 = .ok (.iload_n 3, 1) := by decide +kernel
theorem dX6_receive_29 : decode cX6_receive 29 = .ok (.iaload, 1) := by decide +kernel
theorem dX6_receive_30 : decode cX6_receive 30 = .ok (.istore 4, 2) := by decide +kernel
theorem dX6_receive_32 : decode cX6_receive 32 = .ok (.aload_n 0, 1) := by decide +kernel
theorem dX6_receive_33 : decode cX6_receive 33 = .ok (.getfield 80, 3) := by decide +kernel
theorem dX6_receive_36 : decode cX6_receive 36 = .ok (.iconst 0, 1) := by decide +kernel
theorem dX6_receive_37 : decode cX6_receive 37 = .ok (.iaload, 1) := by decide +kernel
theorem dX6_receive_38 : decode cX6_receive 38 = .ok (.tableswitch 204 5 10 #[38, 38, 77, 95, 133, 166], 38) := by decide +kernel
theorem dX6_receive_76 : decode cX6_receive 76 = .ok (.aload_n 0, 1) := by decide +kernel
theorem dX6_receive_77 : decode cX6_receive 77 = .ok (.getfield 47, 3) := by decide +kernel
theorem dX6_receive_80 : decode cX6_receive 80 = .ok (.iload_n 1, 1) := by decide +kernel
theorem dX6_receive_81 : decode cX6_receive 81 = .ok (.iconst 1, 1) := by decide +kernel
theorem dX6_receive_82 : decode cX6_receive 82 = .ok (.bastore, 1) := by decide +kernel
theorem dX6_receive_83 : decode cX6_receive 83 = .ok (.aload_n 0, 1) := by decide +kernel
theorem dX6_receive_84 : decode cX6_receive 84 = .ok (.getfield 50, 3) := by decide +kernel
theorem dX6_receive_87 : decode cX6_receive 87 = .ok (.iload_n 1, 1) := by decide +kernel
theorem dX6_receive_88 : decode cX6_receive 88 = .ok (.aload_n 0, 1) := by decide +kernel
theorem dX6_receive_89 : decode cX6_receive 89 = .ok (.getfield 80, 3) := by decide +kernel
theorem dX6_receive_92 : decode cX6_receive 92 = .ok (.iconst 4, 1) := by decide +kernel
theorem dX6_receive_93 : decode cX6_receive 93 = .ok (.iaload, 1) := by decide +kernel
theorem dX6_receive_94 : decode cX6_receive 94 = .ok (.iastore, 1) := by decide +kernel
theorem dX6_receive_95 : decode cX6_receive 95 = .ok (.aload_n 0, 1) := by decide +kernel
theorem dX6_receive_96 : decode cX6_receive 96 = .ok (.getfield 53, 3) := by decide +kernel
theorem dX6_receive_99 : decode cX6_receive 99 = .ok (.iload_n 1, 1) := by decide +kernel
theorem dX6_receive_100 : decode cX6_receive 100 = .ok (.aload_n 0, 1) := by decide +kernel
theorem dX6_receive_101 : decode cX6_receive 101 = .ok (.getfield 80, 3) := by decide +kernel
theorem dX6_receive_104 : decode cX6_receive 104 = .ok (.iconst 5, 1) := by decide +kernel
theorem dX6_receive_105 : decode cX6_receive 105 = .ok (.iaload, 1) := by decide +kernel
theorem dX6_receive_106 : decode cX6_receive 106 = .ok (.iastore, 1) := by decide +kernel
theorem dX6_receive_107 : decode cX6_receive 107 = .ok (.aload_n 0, 1) := by decide +kernel
theorem dX6_receive_108 : decode cX6_receive 108 = .ok (.iload_n 1, 1) := by decide +kernel
theorem dX6_receive_109 : decode cX6_receive 109 = .ok (.invokevirtual 173, 3) := by decide +kernel
theorem dX6_receive_112 : decode cX6_receive 112 = .ok (.goto 137, 3) := by decide +kernel
theorem dX6_receive_115 : decode cX6_receive 115 = .ok (.aload_n 0, 1) := by decide +kernel
theorem dX6_receive_116 : decode cX6_receive 116 = .ok (.getfield 56, 3) := by decide +kernel
theorem dX6_receive_119 : decode cX6_receive 119 = .ok (.iload_n 1, 1) := by decide +kernel
theorem dX6_receive_120 : decode cX6_receive 120 = .ok (.dup2, 1) := by decide +kernel
theorem dX6_receive_121 : decode cX6_receive 121 = .ok (.iaload, 1) := by decide +kernel
theorem dX6_receive_122 : decode cX6_receive 122 = .ok (.iconst 1, 1) := by decide +kernel
theorem dX6_receive_123 : decode cX6_receive 123 = .ok (.iadd, 1) := by decide +kernel
theorem dX6_receive_124 : decode cX6_receive 124 = .ok (.iastore, 1) := by decide +kernel
theorem dX6_receive_125 : decode cX6_receive 125 = .ok (.aload_n 0, 1) := by decide +kernel
theorem dX6_receive_126 : decode cX6_receive 126 = .ok (.iload_n 1, 1) := by decide +kernel
theorem dX6_receive_127 : decode cX6_receive 127 = .ok (.invokevirtual 173, 3) := by decide +kernel
theorem dX6_receive_130 : decode cX6_receive 130 = .ok (.goto 119, 3) := by decide +kernel
theorem dX6_receive_133 : decode cX6_receive 133 = .ok (.aload_n 0, 1) := by decide +kernel
theorem dX6_receive_134 : decode cX6_receive 134 = .ok (.iconst 5, 1) := by decide +kernel
theorem dX6_receive_135 : decode cX6_receive 135 = .ok (.iload_n 2, 1) := by decide +kernel
theorem dX6_receive_136 : decode cX6_receive 136 = .ok (.iload_n 1, 1) := by decide +kernel
theorem dX6_receive_137 : decode cX6_receive 137 = .ok (.aload_n 0, 1) := by decide +kernel
theorem dX6_receive_138 : decode cX6_receive 138 = .ok (.getfield 80, 3) := by decide +kernel
theorem dX6_receive_141 : decode cX6_receive 141 = .ok (.bipush 6, 2) := by decide +kernel
theorem dX6_receive_143 : decode cX6_receive 143 = .ok (.iaload, 1) := by decide +kernel
theorem dX6_receive_144 : decode cX6_receive 144 = .ok (.iload 4, 2) := by decide +kernel
theorem dX6_receive_146 : decode cX6_receive 146 = .ok (.iconst 0, 1) := by decide +kernel
theorem dX6_receive_147 : decode cX6_receive 147 = .ok (.iconst (-1), 1) := by decide +kernel
theorem dX6_receive_148 : decode cX6_receive 148 = .ok (.invokevirtual 111, 3) := by decide +kernel
theorem dX6_receive_151 : decode cX6_receive 151 = .ok (.aload_n 0, 1) := by decide +kernel
theorem dX6_receive_152 : decode cX6_receive 152 = .ok (.getfield 16, 3) := by decide +kernel
theorem dX6_receive_155 : decode cX6_receive 155 = .ok (.iload_n 3, 1) := by decide +kernel
theorem dX6_receive_156 : decode cX6_receive 156 = .ok (.iaload, 1) := by decide +kernel
theorem dX6_receive_157 : decode cX6_receive 157 = .ok (.iconst 3, 1) := by decide +kernel
theorem dX6_receive_158 : decode cX6_receive 158 = .ok (.if_icmp .ne 91, 3) := by decide +kernel
theorem dX6_receive_161 : decode cX6_receive 161 = .ok (.aload_n 0, 1) := by decide +kernel
theorem dX6_receive_162 : decode cX6_receive 162 = .ok (.getfield 16, 3) := by decide +kernel
theorem dX6_receive_165 : decode cX6_receive 165 = .ok (.iload_n 3, 1) := by decide +kernel
theorem dX6_receive_166 : decode cX6_receive 166 = .ok (.iconst 2, 1) := by decide +kernel
theorem dX6_receive_167 : decode cX6_receive 167 = .ok (.iastore, 1) := by decide +kernel
theorem dX6_receive_168 : decode cX6_receive 168 = .ok (.goto 81, 3) := by decide +kernel
theorem dX6_receive_171 : decode cX6_receive 171 = .ok (.aload_n 0, 1) := by decide +kernel
theorem dX6_receive_172 : decode cX6_receive 172 = .ok (.iconst 5, 1) := by decide +kernel
theorem dX6_receive_173 : decode cX6_receive 173 = .ok (.iload_n 2, 1) := by decide +kernel
theorem dX6_receive_174 : decode cX6_receive 174 = .ok (.iload_n 1, 1) := by decide +kernel
theorem dX6_receive_175 : decode cX6_receive 175 = .ok (.aload_n 0, 1) := by decide +kernel
theorem dX6_receive_176 : decode cX6_receive 176 = .ok (.getfield 80, 3) := by decide +kernel
theorem dX6_receive_179 : decode cX6_receive 179 = .ok (.bipush 6, 2) := by decide +kernel
theorem dX6_receive_181 : decode cX6_receive 181 = .ok (.iaload, 1) := by decide +kernel
theorem dX6_receive_182 : decode cX6_receive 182 = .ok (.iload 4, 2) := by decide +kernel
theorem dX6_receive_184 : decode cX6_receive 184 = .ok (.aload_n 0, 1) := by decide +kernel
theorem dX6_receive_185 : decode cX6_receive 185 = .ok (.getfield 80, 3) := by decide +kernel
theorem dX6_receive_188 : decode cX6_receive 188 = .ok (.iconst 5, 1) := by decide +kernel
theorem dX6_receive_189 : decode cX6_receive 189 = .ok (.iaload, 1) := by decide +kernel
theorem dX6_receive_190 : decode cX6_receive 190 = .ok (.iconst (-1), 1) := by decide +kernel
theorem dX6_receive_191 : decode cX6_receive 191 = .ok (.invokevirtual 111, 3) := by decide +kernel
theorem dX6_receive_194 : decode cX6_receive 194 = .ok (.aload_n 0, 1) := by decide +kernel
theorem dX6_receive_195 : decode cX6_receive 195 = .ok (.getfield 16, 3) := by decide +kernel
theorem dX6_receive_198 : decode cX6_receive 198 = .ok (.iload_n 3, 1) := by decide +kernel
theorem dX6_receive_199 : decode cX6_receive 199 = .ok (.iconst 0, 1) := by decide +kernel
theorem dX6_receive_200 : decode cX6_receive 200 = .ok (.iastore, 1) := by decide +kernel
theorem dX6_receive_201 : decode cX6_receive 201 = .ok (.goto 48, 3) := by decide +kernel
theorem dX6_receive_204 : decode cX6_receive 204 = .ok (.aload_n 0, 1) := by decide +kernel
theorem dX6_receive_205 : decode cX6_receive 205 = .ok (.getfield 16, 3) := by decide +kernel
theorem dX6_receive_208 : decode cX6_receive 208 = .ok (.iload_n 3, 1) := by decide +kernel
theorem dX6_receive_209 : decode cX6_receive 209 = .ok (.iaload, 1) := by decide +kernel
theorem dX6_receive_210 : decode cX6_receive 210 = .ok (.iconst 1, 1) := by decide +kernel
theorem dX6_receive_211 : decode cX6_receive 211 = .ok (.if_icmp .ne 10, 3) := by decide +kernel
theorem dX6_receive_214 : decode cX6_receive 214 = .ok (.aload_n 0, 1) := by decide +kernel
theorem dX6_receive_215 : decode cX6_receive 215 = .ok (.getfield 16, 3) := by decide +kernel
theorem dX6_receive_218 : decode cX6_receive 218 = .ok (.iload_n 3, 1) := by decide +kernel
theorem dX6_receive_219 : decode cX6_receive 219 = .ok (.iconst 0, 1) := by decide +kernel
theorem dX6_receive_220 : decode cX6_receive 220 = .ok (.iastore, 1) := by decide +kernel
theorem dX6_receive_221 : decode cX6_receive 221 = .ok (.aload_n 0, 1) := by decide +kernel
theorem dX6_receive_222 : decode cX6_receive 222 = .ok (.bipush 7, 2) := by decide +kernel
theorem dX6_receive_224 : decode cX6_receive 224 = .ok (.iload_n 2, 1) := by decide +kernel
theorem dX6_receive_225 : decode cX6_receive 225 = .ok (.iload_n 1, 1) := by decide +kernel
theorem dX6_receive_226 : decode cX6_receive 226 = .ok (.aload_n 0, 1) := by decide +kernel
theorem dX6_receive_227 : decode cX6_receive 227 = .ok (.getfield 80, 3) := by decide +kernel
theorem dX6_receive_230 : decode cX6_receive 230 = .ok (.bipush 6, 2) := by decide +kernel
theorem dX6_receive_232 : decode cX6_receive 232 = .ok (.iaload, 1) := by decide +kernel
theorem dX6_receive_233 : decode cX6_receive 233 = .ok (.iconst 0, 1) := by decide +kernel
theorem dX6_receive_234 : decode cX6_receive 234 = .ok (.iconst 0, 1) := by decide +kernel
theorem dX6_receive_235 : decode cX6_receive 235 = .ok (.iconst (-1), 1) := by decide +kernel
theorem dX6_receive_236 : decode cX6_receive 236 = .ok (.invokevirtual 111, 3) := by decide +kernel
theorem dX6_receive_239 : decode cX6_receive 239 = .ok (.goto 10, 3) := by decide +kernel
theorem dX6_receive_242 : decode cX6_receive 242 = .ok (.aload_n 0, 1) := by decide +kernel
theorem dX6_receive_243 : decode cX6_receive 243 = .ok (.getfield 25, 3) := by decide +kernel
theorem dX6_receive_246 : decode cX6_receive 246 = .ok (.iload_n 3, 1) := by decide +kernel
theorem dX6_receive_247 : decode cX6_receive 247 = .ok (.iconst (-1), 1) := by decide +kernel
theorem dX6_receive_248 : decode cX6_receive 248 = .ok (.iastore, 1) := by decide +kernel
theorem dX6_receive_249 : decode cX6_receive 249 = .ok (.return_, 1) := by decide +kernel
set_option maxRecDepth 20000 in
theorem ggX6_complete_X6_at : GoodIn wsX6_complete wsX6_at := goodIn_r _ [14] (by decide +kernel) (by decide +kernel)
set_option maxRecDepth 20000 in
theorem gX6_complete_X6_at : GoodIn wsX6_complete (va_wsS RX6 87 yX6_at wsX6_at) := goodIn_app (goodIn_of _ (by decide +kernel)) ggX6_complete_X6_at
set_option maxRecDepth 20000 in
theorem ggX6_complete_X6_use : GoodIn wsX6_complete wsX6_use := goodIn_r _ [18, 19, 20, 11, 12, 13, 14, 27, 28, 29, 30, 31, 32, 33, 34, 35, 36, 37, 38, 39, 40, 41, 42, 43, 44, 45, 46, 47, 48, 49, 50, 51, 52, 53, 54, 55] (by decide +kernel) (by decide +kernel)
set_option maxRecDepth 20000 in
theorem gX6_complete_X6_use : GoodIn wsX6_complete (wsV RX6 135 RX6 yX6_use wsX6_use) := goodIn_app (goodIn_of _ (by decide +kernel)) ggX6_complete_X6_use
set_option maxRecDepth 20000 in
theorem ggX6_complete_X6_send : GoodIn wsX6_complete wsX6_send := goodIn_r _ [24, 25, 26, 27, 28, 29, 30, 31, 32, 33, 34, 35, 36, 37, 38, 39, 40, 41, 42, 43, 44, 45, 46, 47, 48, 49, 50, 51, 52, 53, 54, 55] (by decide +kernel) (by decide +kernel)
set_option maxRecDepth 20000 in
theorem gX6_complete_X6_send : GoodIn wsX6_complete (wsV RX6 111 RX6 yX6_send wsX6_send) := goodIn_app (goodIn_of _ (by decide +kernel)) ggX6_complete_X6_send
theorem dX6_complete_0 : decode cX6_complete 0 = .ok (.aload_n 0, 1) := by decide +kernel
theorem dX6_complete_1 : decode cX6_complete 1 = .ok (.getfield 47, 3) := by decide +kernel
theorem dX6_complete_4 : decode cX6_complete 4 = .ok (.iload_n 1, 1) := by decide +kernel
theorem dX6_complete_5 : decode cX6_complete 5 = .ok (.baload, 1) := by decide +kernel
theorem dX6_complete_6 : decode cX6_complete 6 = .ok (.ifCond .eq 18, 3) := by decide +kernel
theorem dX6_complete_9 : decode cX6_complete 9 = .ok (.aload_n 0, 1) := by decide +kernel
theorem dX6_complete_10 : decode cX6_complete 10 = .ok (.getfield 56, 3) := by decide +kernel
theorem dX6_complete_13 : decode cX6_complete 13 = .ok (.iload_n 1, 1) := by decide +kernel
theorem dX6_complete_14 : decode cX6_complete 14 = .ok (.iaload, 1) := by decide +kernel
theorem dX6_complete_15 : decode cX6_complete 15 = .ok (.aload_n 0, 1) := by decide +kernel
theorem dX6_complete_16 : decode cX6_complete 16 = .ok (.getfield 53, 3) := by decide +kernel
theorem dX6_complete_19 : decode cX6_complete 19 = .ok (.iload_n 1, 1) := by decide +kernel
theorem dX6_complete_20 : decode cX6_complete 20 = .ok (.iaload, 1) := by decide +kernel
theorem dX6_complete_21 : decode cX6_complete 21 = .ok (.if_icmp .eq 4, 3) := by decide +kernel
theorem dX6_complete_24 : decode cX6_complete 24 = .ok (.return_, 1) := by decide +kernel
theorem dX6_complete_25 : decode cX6_complete 25 = .ok (.aload_n 0, 1) := by decide +kernel
theorem dX6_complete_26 : decode cX6_complete 26 = .ok (.getfield 37, 3) := by decide +kernel
theorem dX6_complete_29 : decode cX6_complete 29 = .ok (.iload_n 1, 1) := by decide +kernel
theorem dX6_complete_30 : decode cX6_complete 30 = .ok (.iaload, 1) := by decide +kernel
theorem dX6_complete_31 : decode cX6_complete 31 = .ok (.istore_n 2, 1) := by decide +kernel
theorem dX6_complete_32 : decode cX6_complete 32 = .ok (.aload_n 0, 1) := by decide +kernel
theorem dX6_complete_33 : decode cX6_complete 33 = .ok (.getfield 16, 3) := by decide +kernel
theorem dX6_complete_36 : decode cX6_complete 36 = .ok (.iload_n 1, 1) := by decide +kernel
theorem dX6_complete_37 : decode cX6_complete 37 = .ok (.iload_n 2, 1) := by decide +kernel
theorem dX6_complete_38 : decode cX6_complete 38 = .ok (.invokestatic 87, 3) := by decide +kernel
theorem dX6_complete_41 : decode cX6_complete 41 = .ok (.aload_n 0, 1) := by decide +kernel
theorem dX6_complete_42 : decode cX6_complete 42 = .ok (.getfield 40, 3) := by decide +kernel
theorem dX6_complete_45 : decode cX6_complete 45 = .ok (.iload_n 1, 1) := by decide +kernel
theorem dX6_complete_46 : decode cX6_complete 46 = .ok (.baload, 1) := by decide +kernel
theorem dX6_complete_47 : decode cX6_complete 47 = .ok (.ifCond .eq 7, 3) := by decide +kernel
theorem dX6_complete_50 : decode cX6_complete 50 = .ok (.iconst 3, 1) := by decide +kernel
theorem dX6_complete_51 : decode cX6_complete 51 = .ok (.goto 4, 3) := by decide +kernel
theorem dX6_complete_54 : decode cX6_complete 54 = .ok (.iconst 1, 1) := by decide +kernel
theorem dX6_complete_55 : decode cX6_complete 55 = .ok (.iastore, 1) := by decide +kernel
theorem dX6_complete_56 : decode cX6_complete 56 = .ok (.aload_n 0, 1) := by decide +kernel
theorem dX6_complete_57 : decode cX6_complete 57 = .ok (.getfield 19, 3) := by decide +kernel
theorem dX6_complete_60 : decode cX6_complete 60 = .ok (.iload_n 1, 1) := by decide +kernel
theorem dX6_complete_61 : decode cX6_complete 61 = .ok (.iload_n 2, 1) := by decide +kernel
theorem dX6_complete_62 : decode cX6_complete 62 = .ok (.invokestatic 87, 3) := by decide +kernel
theorem dX6_complete_65 : decode cX6_complete 65 = .ok (.aload_n 0, 1) := by decide +kernel
theorem dX6_complete_66 : decode cX6_complete 66 = .ok (.getfield 40, 3) := by decide +kernel
theorem dX6_complete_69 : decode cX6_complete 69 = .ok (.iload_n 1, 1) := by decide +kernel
theorem dX6_complete_70 : decode cX6_complete 70 = .ok (.baload, 1) := by decide +kernel
theorem dX6_complete_71 : decode cX6_complete 71 = .ok (.ifCond .eq 12, 3) := by decide +kernel
theorem dX6_complete_74 : decode cX6_complete 74 = .ok (.aload_n 0, 1) := by decide +kernel
theorem dX6_complete_75 : decode cX6_complete 75 = .ok (.getfield 44, 3) := by decide +kernel
theorem dX6_complete_78 : decode cX6_complete 78 = .ok (.iload_n 1, 1) := by decide +kernel
theorem dX6_complete_79 : decode cX6_complete 79 = .ok (.iaload, 1) := by decide +kernel
theorem dX6_complete_80 : decode cX6_complete 80 = .ok (.goto 9, 3) := by decide +kernel
theorem dX6_complete_83 : decode cX6_complete 83 = .ok (.aload_n 0, 1) := by decide +kernel
theorem dX6_complete_84 : decode cX6_complete 84 = .ok (.getfield 50, 3) := by decide +kernel
theorem dX6_complete_87 : decode cX6_complete 87 = .ok (.iload_n 1, 1) := by decide +kernel
theorem dX6_complete_88 : decode cX6_complete 88 = .ok (.iaload, 1) := by decide +kernel
theorem dX6_complete_89 : decode cX6_complete 89 = .ok (.iastore, 1) := by decide +kernel
theorem dX6_complete_90 : decode cX6_complete 90 = .ok (.aload_n 0, 1) := by decide +kernel
theorem dX6_complete_91 : decode cX6_complete 91 = .ok (.getfield 40, 3) := by decide +kernel
theorem dX6_complete_94 : decode cX6_complete 94 = .ok (.iload_n 1, 1) := by decide +kernel
theorem dX6_complete_95 : decode cX6_complete 95 = .ok (.baload, 1) := by decide +kernel
theorem dX6_complete_96 : decode cX6_complete 96 = .ok (.ifCond .ne 15, 3) := by decide +kernel
theorem dX6_complete_99 : decode cX6_complete 99 = .ok (.aload_n 0, 1) := by decide +kernel
theorem dX6_complete_100 : decode cX6_complete 100 = .ok (.getfield 34, 3) := by decide +kernel
theorem dX6_complete_103 : decode cX6_complete 103 = .ok (.iload_n 1, 1) := by decide +kernel
theorem dX6_complete_104 : decode cX6_complete 104 = .ok (.aload_n 0, 1) := by decide +kernel
theorem dX6_complete_105 : decode cX6_complete 105 = .ok (.getfield 50, 3) := by decide +kernel
theorem dX6_complete_108 : decode cX6_complete 108 = .ok (.iload_n 1, 1) := by decide +kernel
theorem dX6_complete_109 : decode cX6_complete 109 = .ok (.iaload, 1) := by decide +kernel
theorem dX6_complete_110 : decode cX6_complete 110 = .ok (.iastore, 1) := by decide +kernel
theorem dX6_complete_111 : decode cX6_complete 111 = .ok (.aload_n 0, 1) := by decide +kernel
theorem dX6_complete_112 : decode cX6_complete 112 = .ok (.iload_n 1, 1) := by decide +kernel
theorem dX6_complete_113 : decode cX6_complete 113 = .ok (.iload_n 2, 1) := by decide +kernel
theorem dX6_complete_114 : decode cX6_complete 114 = .ok (.invokevirtual 135, 3) := by decide +kernel
theorem dX6_complete_117 : decode cX6_complete 117 = .ok (.aload_n 0, 1) := by decide +kernel
theorem dX6_complete_118 : decode cX6_complete 118 = .ok (.getfield 37, 3) := by decide +kernel
theorem dX6_complete_121 : decode cX6_complete 121 = .ok (.iload_n 1, 1) := by decide +kernel
theorem dX6_complete_122 : decode cX6_complete 122 = .ok (.iconst (-1), 1) := by decide +kernel
theorem dX6_complete_123 : decode cX6_complete 123 = .ok (.iastore, 1) := by decide +kernel
theorem dX6_complete_124 : decode cX6_complete 124 = .ok (.aload_n 0, 1) := by decide +kernel
theorem dX6_complete_125 : decode cX6_complete 125 = .ok (.getfield 47, 3) := by decide +kernel
theorem dX6_complete_128 : decode cX6_complete 128 = .ok (.iload_n 1, 1) := by decide +kernel
theorem dX6_complete_129 : decode cX6_complete 129 = .ok (.iconst 0, 1) := by decide +kernel
theorem dX6_complete_130 : decode cX6_complete 130 = .ok (.bastore, 1) := by decide +kernel
theorem dX6_complete_131 : decode cX6_complete 131 = .ok (.aload_n 0, 1) := by decide +kernel
theorem dX6_complete_132 : decode cX6_complete 132 = .ok (.iconst 4, 1) := by decide +kernel
theorem dX6_complete_133 : decode cX6_complete 133 = .ok (.iload_n 2, 1) := by decide +kernel
theorem dX6_complete_134 : decode cX6_complete 134 = .ok (.iload_n 1, 1) := by decide +kernel
theorem dX6_complete_135 : decode cX6_complete 135 = .ok (.iconst (-1), 1) := by decide +kernel
theorem dX6_complete_136 : decode cX6_complete 136 = .ok (.iconst 0, 1) := by decide +kernel
theorem dX6_complete_137 : decode cX6_complete 137 = .ok (.iconst 0, 1) := by decide +kernel
theorem dX6_complete_138 : decode cX6_complete 138 = .ok (.iconst (-1), 1) := by decide +kernel
theorem dX6_complete_139 : decode cX6_complete 139 = .ok (.invokevirtual 111, 3) := by decide +kernel
theorem dX6_complete_142 : decode cX6_complete 142 = .ok (.return_, 1) := by decide +kernel
set_option maxRecDepth 20000 in
theorem ggX6_hits_X6_isCache : GoodIn wsX6_hits wsX6_isCache := goodIn_r _ [6] (by decide +kernel) (by decide +kernel)
set_option maxRecDepth 20000 in
theorem gX6_hits_X6_isCache : GoodIn wsX6_hits (va_wsS RX6 97 yX6_isCache wsX6_isCache) := goodIn_app (goodIn_of _ (by decide +kernel)) ggX6_hits_X6_isCache
set_option maxRecDepth 20000 in
theorem ggX6_hits_X6_fail : GoodIn wsX6_hits wsX6_fail := goodIn_r _ [10, 1, 11, 12, 13, 14, 15, 16, 17, 18, 19, 20, 21, 22, 23, 24, 25, 26, 27, 28, 29, 30, 31, 32, 33, 34, 35, 36, 37, 38, 39] (by decide +kernel) (by decide +kernel)
set_option maxRecDepth 20000 in
theorem gX6_hits_X6_fail : GoodIn wsX6_hits (wsV RX6 132 RX6 yX6_fail wsX6_fail) := goodIn_app (goodIn_of _ (by decide +kernel)) ggX6_hits_X6_fail
theorem dX6_hits_0 : decode cX6_hits 0 = .ok (.aload_n 0, 1) := by decide +kernel
theorem dX6_hits_1 : decode cX6_hits 1 = .ok (.iconst 0, 1) := by decide +kernel
theorem dX6_hits_2 : decode cX6_hits 2 = .ok (.putfield 83, 3) := by decide +kernel
theorem dX6_hits_5 : decode cX6_hits 5 = .ok (.iload_n 1, 1) := by decide +kernel
theorem dX6_hits_6 : decode cX6_hits 6 = .ok (.invokestatic 97, 3) := by decide +kernel
theorem dX6_hits_9 : decode cX6_hits 9 = .ok (.ifCond .eq 12, 3) := by decide +kernel
theorem dX6_hits_12 : decode cX6_hits 12 = .ok (.aload_n 0, 1) := by decide +kernel
theorem dX6_hits_13 : decode cX6_hits 13 = .ok (.getfield 28, 3) := by decide +kernel
theorem dX6_hits_16 : decode cX6_hits 16 = .ok (.iload_n 1, 1) := by decide +kernel
theorem dX6_hits_17 : decode cX6_hits 17 = .ok (.iaload, 1) := by decide +kernel
theorem dX6_hits_18 : decode cX6_hits 18 = .ok (.goto 8, 3) := by decide +kernel
theorem dX6_hits_21 : decode cX6_hits 21 = .ok (.aload_n 0, 1) := by decide +kernel
theorem dX6_hits_22 : decode cX6_hits 22 = .ok (.iconst 1, 1) := by decide +kernel
theorem dX6_hits_23 : decode cX6_hits 23 = .ok (.invokevirtual 132, 3) := by decide +kernel
theorem dX6_hits_26 : decode cX6_hits 26 = .ok (.ireturn, 1) := by decide +kernel
set_option maxRecDepth 20000 in
theorem ggX6_misses_X6_isCache : GoodIn wsX6_misses wsX6_isCache := goodIn_r _ [6] (by decide +kernel) (by decide +kernel)
set_option maxRecDepth 20000 in
theorem gX6_misses_X6_isCache : GoodIn wsX6_misses (va_wsS RX6 97 yX6_isCache wsX6_isCache) := goodIn_app (goodIn_of _ (by decide +kernel)) ggX6_misses_X6_isCache
set_option maxRecDepth 20000 in
theorem ggX6_misses_X6_fail : GoodIn wsX6_misses wsX6_fail := goodIn_r _ [10, 1, 11, 12, 13, 14, 15, 16, 17, 18, 19, 20, 21, 22, 23, 24, 25, 26, 27, 28, 29, 30, 31, 32, 33, 34, 35, 36, 37, 38, 39] (by decide +kernel) (by decide +kernel)
set_option maxRecDepth 20000 in
theorem gX6_misses_X6_fail : GoodIn wsX6_misses (wsV RX6 132 RX6 yX6_fail wsX6_fail) := goodIn_app (goodIn_of _ (by decide +kernel)) ggX6_misses_X6_fail
theorem dX6_misses_0 : decode cX6_misses 0 = .ok (.aload_n 0, 1) := by decide +kernel
theorem dX6_misses_1 : decode cX6_misses 1 = .ok (.iconst 0, 1) := by decide +kernel
theorem dX6_misses_2 : decode cX6_misses 2 = .ok (.putfield 83, 3) := by decide +kernel
theorem dX6_misses_5 : decode cX6_misses 5 = .ok (.iload_n 1, 1) := by decide +kernel
theorem dX6_misses_6 : decode cX6_misses 6 = .ok (.invokestatic 97, 3) := by decide +kernel
theorem dX6_misses_9 : decode cX6_misses 9 = .ok (.ifCond .eq 12, 3) := by decide +kernel
theorem dX6_misses_12 : decode cX6_misses 12 = .ok (.aload_n 0, 1) := by decide +kernel
theorem dX6_misses_13 : decode cX6_misses 13 = .ok (.getfield 31, 3) := by decide +kernel
theorem dX6_misses_16 : decode cX6_misses 16 = .ok (.iload_n 1, 1) := by decide +kernel
theorem dX6_misses_17 : decode cX6_misses 17 = .ok (.iaload, 1) := by decide +kernel
theorem dX6_misses_18 : decode cX6_misses 18 = .ok (.goto 8, 3) := by decide +kernel
theorem dX6_misses_21 : decode cX6_misses 21 = .ok (.aload_n 0, 1) := by decide +kernel
theorem dX6_misses_22 : decode cX6_misses 22 = .ok (.iconst 1, 1) := by decide +kernel
theorem dX6_misses_23 : decode cX6_misses 23 = .ok (.invokevirtual 132, 3) := by decide +kernel
theorem dX6_misses_26 : decode cX6_misses 26 = .ok (.ireturn, 1) := by decide +kernel
theorem dX6_writebacks_0 : decode cX6_writebacks 0 = .ok (.aload_n 0, 1) := by decide +kernel
theorem dX6_writebacks_1 : decode cX6_writebacks 1 = .ok (.iconst 0, 1) := by decide +kernel
theorem dX6_writebacks_2 : decode cX6_writebacks 2 = .ok (.putfield 83, 3) := by decide +kernel
theorem dX6_writebacks_5 : decode cX6_writebacks 5 = .ok (.aload_n 0, 1) := by decide +kernel
theorem dX6_writebacks_6 : decode cX6_writebacks 6 = .ok (.getfield 167, 3) := by decide +kernel
theorem dX6_writebacks_9 : decode cX6_writebacks 9 = .ok (.ireturn, 1) := by decide +kernel
theorem dX6_lateWritebacks_0 : decode cX6_lateWritebacks 0 = .ok (.aload_n 0, 1) := by decide +kernel
theorem dX6_lateWritebacks_1 : decode cX6_lateWritebacks 1 = .ok (.iconst 0, 1) := by decide +kernel
theorem dX6_lateWritebacks_2 : decode cX6_lateWritebacks 2 = .ok (.putfield 83, 3) := by decide +kernel
theorem dX6_lateWritebacks_5 : decode cX6_lateWritebacks 5 = .ok (.aload_n 0, 1) := by decide +kernel
theorem dX6_lateWritebacks_6 : decode cX6_lateWritebacks 6 = .ok (.getfield 170, 3) := by decide +kernel
theorem dX6_lateWritebacks_9 : decode cX6_lateWritebacks 9 = .ok (.ireturn, 1) := by decide +kernel
set_option maxRecDepth 20000 in
theorem ggX6_isInOrder_X6_isLine : GoodIn wsX6_isInOrder wsX6_isLine := goodIn_r _ [7] (by decide +kernel) (by decide +kernel)
set_option maxRecDepth 20000 in
theorem gX6_isInOrder_X6_isLine : GoodIn wsX6_isInOrder (va_wsS RX6 129 yX6_isLine wsX6_isLine) := goodIn_app (goodIn_of _ (by decide +kernel)) ggX6_isInOrder_X6_isLine
set_option maxRecDepth 20000 in
theorem ggX6_isInOrder_X6_failed : GoodIn wsX6_isInOrder wsX6_failed := goodIn_r _ [11, 1, 15, 16, 17, 18, 19, 20, 21, 22, 23, 24, 25, 26, 27, 28, 29, 30, 31, 32, 33, 34, 35, 36, 37, 38, 39, 40, 41, 42, 43] (by decide +kernel) (by decide +kernel)
set_option maxRecDepth 20000 in
theorem gX6_isInOrder_X6_failed : GoodIn wsX6_isInOrder (wsV RX6 101 RX6 yX6_failed wsX6_failed) := goodIn_app (goodIn_of _ (by decide +kernel)) ggX6_isInOrder_X6_failed
set_option maxRecDepth 20000 in
theorem ggX6_isInOrder_X6_at : GoodIn wsX6_isInOrder wsX6_at := goodIn_r _ [14] (by decide +kernel) (by decide +kernel)
set_option maxRecDepth 20000 in
theorem gX6_isInOrder_X6_at : GoodIn wsX6_isInOrder (va_wsS RX6 87 yX6_at wsX6_at) := goodIn_app (goodIn_of _ (by decide +kernel)) ggX6_isInOrder_X6_at
theorem dX6_isInOrder_0 : decode cX6_isInOrder 0 = .ok (.aload_n 0, 1) := by decide +kernel
theorem dX6_isInOrder_1 : decode cX6_isInOrder 1 = .ok (.iconst 0, 1) := by decide +kernel
theorem dX6_isInOrder_2 : decode cX6_isInOrder 2 = .ok (.putfield 83, 3) := by decide +kernel
theorem dX6_isInOrder_5 : decode cX6_isInOrder 5 = .ok (.iload_n 1, 1) := by decide +kernel
theorem dX6_isInOrder_6 : decode cX6_isInOrder 6 = .ok (.invokestatic 129, 3) := by decide +kernel
theorem dX6_isInOrder_9 : decode cX6_isInOrder 9 = .ok (.ifCond .ne 9, 3) := by decide +kernel
theorem dX6_isInOrder_12 : decode cX6_isInOrder 12 = .ok (.aload_n 0, 1) := by decide +kernel
theorem dX6_isInOrder_13 : decode cX6_isInOrder 13 = .ok (.iconst 1, 1) := by decide +kernel
theorem dX6_isInOrder_14 : decode cX6_isInOrder 14 = .ok (.invokevirtual 101, 3) := by decide +kernel
theorem dX6_isInOrder_17 : decode cX6_isInOrder 17 = .ok (.ireturn, 1) := by decide +kernel
theorem dX6_isInOrder_18 : decode cX6_isInOrder 18 = .ok (.iconst 0, 1) := by decide +kernel
theorem dX6_isInOrder_19 : decode cX6_isInOrder 19 = .ok (.istore_n 2, 1) := by decide +kernel
theorem dX6_isInOrder_20 : decode cX6_isInOrder 20 = .ok (.iconst 0, 1) := by decide +kernel
theorem dX6_isInOrder_21 : decode cX6_isInOrder 21 = .ok (.istore_n 3, 1) := by decide +kernel
theorem dX6_isInOrder_22 : decode cX6_isInOrder 22 = .ok (.iconst 0, 1) := by decide +kernel
theorem dX6_isInOrder_23 : decode cX6_isInOrder 23 = .ok (.istore 4, 2) := by decide +kernel
theorem dX6_isInOrder_25 : decode cX6_isInOrder 25 = .ok (.iconst (-1), 1) := by decide +kernel
theorem dX6_isInOrder_26 : decode cX6_isInOrder 26 = .ok (.istore 5, 2) := by decide +kernel
theorem dX6_isInOrder_28 : decode cX6_isInOrder 28 = .ok (.iconst 1, 1) := by decide +kernel
theorem dX6_isInOrder_29 : decode cX6_isInOrder 29 = .ok (.istore 6, 2) := by decide +kernel
theorem dX6_isInOrder_31 : decode cX6_isInOrder 31 = .ok (.iconst 0, 1) := by decide +kernel
theorem dX6_isInOrder_32 : decode cX6_isInOrder 32 = .ok (.istore 7, 2) := by decide +kernel
theorem dX6_isInOrder_34 : decode cX6_isInOrder 34 = .ok (.iload 7, 2) := by decide +kernel
theorem dX6_isInOrder_36 : decode cX6_isInOrder 36 = .ok (.iconst 4, 1) := by decide +kernel
theorem dX6_isInOrder_37 : decode cX6_isInOrder 37 = .ok (.if_icmp .ge 110, 3) := by decide +kernel
theorem dX6_isInOrder_40 : decode cX6_isInOrder 40 = .ok (.aload_n 0, 1) := by decide +kernel
theorem dX6_isInOrder_41 : decode cX6_isInOrder 41 = .ok (.getfield 16, 3) := by decide +kernel
theorem dX6_isInOrder_44 : decode cX6_isInOrder 44 = .ok (.iload 7, 2) := by decide +kernel
theorem dX6_isInOrder_46 : decode cX6_isInOrder 46 = .ok (.iload_n 1, 1) := by decide +kernel
theorem dX6_isInOrder_47 : decode cX6_isInOrder 47 = .ok (.invokestatic 87, 3) := by decide +kernel
theorem dX6_isInOrder_50 : decode cX6_isInOrder 50 = .ok (.iaload, 1) := by decide +kernel
theorem dX6_isInOrder_51 : decode cX6_isInOrder 51 = .ok (.istore 8, 2) := by decide +kernel
theorem dX6_isInOrder_53 : decode cX6_isInOrder 53 = .ok (.iload 8, 2) := by decide +kernel
theorem dX6_isInOrder_55 : decode cX6_isInOrder 55 = .ok (.ifCond .ne 6, 3) := by decide +kernel
theorem dX6_isInOrder_58 : decode cX6_isInOrder 58 = .ok (.goto 83, 3) := by decide +kernel
theorem dX6_isInOrder_61 : decode cX6_isInOrder 61 = .ok (.iinc 2 1, 3) := by decide +kernel
theorem dX6_isInOrder_64 : decode cX6_isInOrder 64 = .ok (.iload_n 3, 1) := by decide +kernel
theorem dX6_isInOrder_65 : decode cX6_isInOrder 65 = .ok (.iload 8, 2) := by decide +kernel
theorem dX6_isInOrder_67 : decode cX6_isInOrder 67 = .ok (.iconst 2, 1) := by decide +kernel
theorem dX6_isInOrder_68 : decode cX6_isInOrder 68 = .ok (.if_icmp .lt 7, 3) := by decide +kernel
theorem dX6_isInOrder_71 : decode cX6_isInOrder 71 = .ok (.iconst 1, 1) := by decide +kernel
theorem dX6_isInOrder_72 : decode cX6_isInOrder 72 = .ok (.goto 4, 3) := by decide +kernel
theorem dX6_isInOrder_75 : decode cX6_isInOrder 75 = .ok (.iconst 0, 1) := by decide +kernel
theorem dX6_isInOrder_76 : decode cX6_isInOrder 76 = .ok (.iadd, 1) := by decide +kernel
theorem dX6_isInOrder_77 : decode cX6_isInOrder 77 = .ok (.istore_n 3, 1) := by decide +kernel
theorem dX6_isInOrder_78 : decode cX6_isInOrder 78 = .ok (.iload 4, 2) := by decide +kernel
theorem dX6_isInOrder_80 : decode cX6_isInOrder 80 = .ok (.iload 8, 2) := by decide +kernel
theorem dX6_isInOrder_82 : decode cX6_isInOrder 82 = .ok (.iconst 3, 1) := by decide +kernel
theorem dX6_isInOrder_83 : decode cX6_isInOrder 83 = .ok (.if_icmp .ne 7, 3) := by decide +kernel
theorem dX6_isInOrder_86 : decode cX6_isInOrder 86 = .ok (.iconst 1, 1) := by decide +kernel
theorem dX6_isInOrder_87 : decode cX6_isInOrder 87 = .ok (.goto 4, 3) := by decide +kernel
theorem dX6_isInOrder_90 : decode cX6_isInOrder 90 = .ok (.iconst 0, 1) := by decide +kernel
theorem dX6_isInOrder_91 : decode cX6_isInOrder 91 = .ok (.iadd, 1) := by decide +kernel
theorem dX6_isInOrder_92 : decode cX6_isInOrder 92 = .ok (.istore 4, 2) := by decide +kernel
theorem dX6_isInOrder_94 : decode cX6_isInOrder 94 = .ok (.iload 6, 2) := by decide +kernel
theorem dX6_isInOrder_96 : decode cX6_isInOrder 96 = .ok (.ifCond .eq 29, 3) := by decide +kernel
theorem dX6_isInOrder_99 : decode cX6_isInOrder 99 = .ok (.iload 5, 2) := by decide +kernel
theorem dX6_isInOrder_101 : decode cX6_isInOrder 101 = .ok (.iconst (-1), 1) := by decide +kernel
theorem dX6_isInOrder_102 : decode cX6_isInOrder 102 = .ok (.if_icmp .eq 19, 3) := by decide +kernel
theorem dX6_isInOrder_105 : decode cX6_isInOrder 105 = .ok (.aload_n 0, 1) := by decide +kernel
theorem dX6_isInOrder_106 : decode cX6_isInOrder 106 = .ok (.getfield 19, 3) := by decide +kernel
theorem dX6_isInOrder_109 : decode cX6_isInOrder 109 = .ok (.iload 7, 2) := by decide +kernel
theorem dX6_isInOrder_111 : decode cX6_isInOrder 111 = .ok (.iload_n 1, 1) := by decide +kernel
theorem dX6_isInOrder_112 : decode cX6_isInOrder 112 = .ok (.invokestatic 87, 3) := by decide +kernel
theorem dX6_isInOrder_115 : decode cX6_isInOrder 115 = .ok (.iaload, 1) := by decide +kernel
theorem dX6_isInOrder_116 : decode cX6_isInOrder 116 = .ok (.iload 5, 2) := by decide +kernel
theorem dX6_isInOrder_118 : decode cX6_isInOrder 118 = .ok (.if_icmp .ne 7, 3) := by decide +kernel
theorem dX6_isInOrder_121 : decode cX6_isInOrder 121 = .ok (.iconst 1, 1) := by decide +kernel
theorem dX6_isInOrder_122 : decode cX6_isInOrder 122 = .ok (.goto 4, 3) := by decide +kernel
theorem dX6_isInOrder_125 : decode cX6_isInOrder 125 = .ok (.iconst 0, 1) := by decide +kernel
theorem dX6_isInOrder_126 : decode cX6_isInOrder 126 = .ok (.istore 6, 2) := by decide +kernel
theorem dX6_isInOrder_128 : decode cX6_isInOrder 128 = .ok (.aload_n 0, 1) := by decide +kernel
theorem dX6_isInOrder_129 : decode cX6_isInOrder 129 = .ok (.getfield 19, 3) := by decide +kernel
theorem dX6_isInOrder_132 : decode cX6_isInOrder 132 = .ok (.iload 7, 2) := by decide +kernel
theorem dX6_isInOrder_134 : decode cX6_isInOrder 134 = .ok (.iload_n 1, 1) := by decide +kernel
theorem dX6_isInOrder_135 : decode cX6_isInOrder 135 = .ok (.invokestatic 87, 3) := by decide +kernel
theorem dX6_isInOrder_138 : decode cX6_isInOrder 138 = .ok (.iaload, 1) := by decide +kernel
theorem dX6_isInOrder_139 : decode cX6_isInOrder 139 = .ok (.istore 5, 2) := by decide +kernel
theorem dX6_isInOrder_141 : decode cX6_isInOrder 141 = .ok (.iinc 7 1, 3) := by decide +kernel
theorem dX6_isInOrder_144 : decode cX6_isInOrder 144 = .ok (.goto (-110), 3) := by decide +kernel
theorem dX6_isInOrder_147 : decode cX6_isInOrder 147 = .ok (.iload 6, 2) := by decide +kernel
theorem dX6_isInOrder_149 : decode cX6_isInOrder 149 = .ok (.ifCond .eq 22, 3) := by decide +kernel
theorem dX6_isInOrder_152 : decode cX6_isInOrder 152 = .ok (.iload_n 3, 1) := by decide +kernel
theorem dX6_isInOrder_153 : decode cX6_isInOrder 153 = .ok (.iconst 1, 1) := by decide +kernel
theorem dX6_isInOrder_154 : decode cX6_isInOrder 154 = .ok (.if_icmp .gt 17, 3) := by decide +kernel
theorem dX6_isInOrder_157 : decode cX6_isInOrder 157 = .ok (.iload 4, 2) := by decide +kernel
theorem dX6_isInOrder_159 : decode cX6_isInOrder 159 = .ok (.ifCond .eq 8, 3) := by decide +kernel
theorem dX6_isInOrder_162 : decode cX6_isInOrder 162 = .ok (.iload_n 2, 1) := by decide +kernel
theorem dX6_isInOrder_163 : decode cX6_isInOrder 163 = .ok (.iconst 1, 1) := by decide +kernel
theorem dX6_isInOrder_164 : decode cX6_isInOrder 164 = .ok (.if_icmp .ne 7, 3) := by decide +kernel
theorem dX6_isInOrder_167 : decode cX6_isInOrder 167 = .ok (.iconst 1, 1) := by decide +kernel
theorem dX6_isInOrder_168 : decode cX6_isInOrder 168 = .ok (.goto 4, 3) := by decide +kernel
theorem dX6_isInOrder_171 : decode cX6_isInOrder 171 = .ok (.iconst 0, 1) := by decide +kernel
theorem dX6_isInOrder_172 : decode cX6_isInOrder 172 = .ok (.ireturn, 1) := by decide +kernel
set_option maxRecDepth 20000 in
theorem ggX6_digest_X6_at : GoodIn wsX6_digest wsX6_at := goodIn_r _ [18] (by decide +kernel) (by decide +kernel)
set_option maxRecDepth 20000 in
theorem gX6_digest_X6_at : GoodIn wsX6_digest (va_wsS RX6 87 yX6_at wsX6_at) := goodIn_app (goodIn_of _ (by decide +kernel)) ggX6_digest_X6_at
theorem dX6_digest_0 : decode cX6_digest 0 = .ok (.aload_n 0, 1) := by decide +kernel
theorem dX6_digest_1 : decode cX6_digest 1 = .ok (.iconst 0, 1) := by decide +kernel
theorem dX6_digest_2 : decode cX6_digest 2 = .ok (.putfield 83, 3) := by decide +kernel
theorem dX6_digest_5 : decode cX6_digest 5 = .ok (.ldc2_w 176, 3) := by decide +kernel
theorem dX6_digest_8 : decode cX6_digest 8 = .ok (.lstore_n 1, 1) := by decide +kernel
theorem dX6_digest_9 : decode cX6_digest 9 = .ok (.iconst 0, 1) := by decide +kernel
theorem dX6_digest_10 : decode cX6_digest 10 = .ok (.istore_n 3, 1) := by decide +kernel
theorem dX6_digest_11 : decode cX6_digest 11 = .ok (.iload_n 3, 1) := by decide +kernel
theorem dX6_digest_12 : decode cX6_digest 12 = .ok (.bipush 16, 2) := by decide +kernel
theorem dX6_digest_14 : decode cX6_digest 14 = .ok (.if_icmp .ge 158, 3) := by decide +kernel
theorem dX6_digest_17 : decode cX6_digest 17 = .ok (.lload_n 1, 1) := by decide +kernel
theorem dX6_digest_18 : decode cX6_digest 18 = .ok (.ldc2_w 178, 3) := by decide +kernel
theorem dX6_digest_21 : decode cX6_digest 21 = .ok (.lmul, 1) := by decide +kernel
theorem dX6_digest_22 : decode cX6_digest 22 = .ok (.aload_n 0, 1) := by decide +kernel
theorem dX6_digest_23 : decode cX6_digest 23 = .ok (.getfield 59, 3) := by decide +kernel
theorem dX6_digest_26 : decode cX6_digest 26 = .ok (.iload_n 3, 1) := by decide +kernel
theorem dX6_digest_27 : decode cX6_digest 27 = .ok (.iaload, 1) := by decide +kernel
theorem dX6_digest_28 : decode cX6_digest 28 = .ok (.i2l, 1) := by decide +kernel
theorem dX6_digest_29 : decode cX6_digest 29 = .ok (.ladd, 1) := by decide +kernel
theorem dX6_digest_30 : decode cX6_digest 30 = .ok (.ldc2_w 178, 3) := by decide +kernel
theorem dX6_digest_33 : decode cX6_digest 33 = .ok (.lmul, 1) := by decide +kernel
theorem dX6_digest_34 : decode cX6_digest 34 = .ok (.aload_n 0, 1) := by decide +kernel
theorem dX6_digest_35 : decode cX6_digest 35 = .ok (.getfield 62, 3) := by decide +kernel
theorem dX6_digest_38 : decode cX6_digest 38 = .ok (.iload_n 3, 1) := by decide +kernel
theorem dX6_digest_39 : decode cX6_digest 39 = .ok (.iaload, 1) := by decide +kernel
theorem dX6_digest_40 : decode cX6_digest 40 = .ok (.i2l, 1) := by decide +kernel
theorem dX6_digest_41 : decode cX6_digest 41 = .ok (.ladd, 1) := by decide +kernel
theorem dX6_digest_42 : decode cX6_digest 42 = .ok (.ldc2_w 178, 3) := by decide +kernel
theorem dX6_digest_45 : decode cX6_digest 45 = .ok (.lmul, 1) := by decide +kernel
theorem dX6_digest_46 : decode cX6_digest 46 = .ok (.aload_n 0, 1) := by decide +kernel
theorem dX6_digest_47 : decode cX6_digest 47 = .ok (.getfield 65, 3) := by decide +kernel
theorem dX6_digest_50 : decode cX6_digest 50 = .ok (.iload_n 3, 1) := by decide +kernel
theorem dX6_digest_51 : decode cX6_digest 51 = .ok (.iaload, 1) := by decide +kernel
theorem dX6_digest_52 : decode cX6_digest 52 = .ok (.i2l, 1) := by decide +kernel
theorem dX6_digest_53 : decode cX6_digest 53 = .ok (.ladd, 1) := by decide +kernel
theorem dX6_digest_54 : decode cX6_digest 54 = .ok (.ldc2_w 178, 3) := by decide +kernel
theorem dX6_digest_57 : decode cX6_digest 57 = .ok (.lmul, 1) := by decide +kernel
theorem dX6_digest_58 : decode cX6_digest 58 = .ok (.aload_n 0, 1) := by decide +kernel
theorem dX6_digest_59 : decode cX6_digest 59 = .ok (.getfield 68, 3) := by decide +kernel
theorem dX6_digest_62 : decode cX6_digest 62 = .ok (.iload_n 3, 1) := by decide +kernel
theorem dX6_digest_63 : decode cX6_digest 63 = .ok (.baload, 1) := by decide +kernel
theorem dX6_digest_64 : decode cX6_digest 64 = .ok (.ifCond .eq 7, 3) := by decide +kernel
theorem dX6_digest_67 : decode cX6_digest 67 = .ok (.lconst 1, 1) := by decide +kernel
theorem dX6_digest_68 : decode cX6_digest 68 = .ok (.goto 4, 3) := by decide +kernel
theorem dX6_digest_71 : decode cX6_digest 71 = .ok (.lconst 0, 1) := by decide +kernel
theorem dX6_digest_72 : decode cX6_digest 72 = .ok (.ladd, 1) := by decide +kernel
theorem dX6_digest_73 : decode cX6_digest 73 = .ok (.lstore_n 1, 1) := by decide +kernel
theorem dX6_digest_74 : decode cX6_digest 74 = .ok (.lload_n 1, 1) := by decide +kernel
theorem dX6_digest_75 : decode cX6_digest 75 = .ok (.ldc2_w 178, 3) := by decide +kernel
theorem dX6_digest_78 : decode cX6_digest 78 = .ok (.lmul, 1) := by decide +kernel
theorem dX6_digest_79 : decode cX6_digest 79 = .ok (.aload_n 0, 1) := by decide +kernel
theorem dX6_digest_80 : decode cX6_digest 80 = .ok (.getfield 74, 3) := by decide +kernel
theorem dX6_digest_83 : decode cX6_digest 83 = .ok (.iload_n 3, 1) := by decide +kernel
theorem dX6_digest_84 : decode cX6_digest 84 = .ok (.iaload, 1) := by decide +kernel
theorem dX6_digest_85 : decode cX6_digest 85 = .ok (.i2l, 1) := by decide +kernel
theorem dX6_digest_86 : decode cX6_digest 86 = .ok (.ladd, 1) := by decide +kernel
theorem dX6_digest_87 : decode cX6_digest 87 = .ok (.lstore_n 1, 1) := by decide +kernel
theorem dX6_digest_88 : decode cX6_digest 88 = .ok (.iconst 0, 1) := by decide +kernel
theorem dX6_digest_89 : decode cX6_digest 89 = .ok (.istore 4, 2) := by decide +kernel
theorem dX6_digest_91 : decode cX6_digest 91 = .ok (.iload 4, 2) := by decide +kernel
theorem dX6_digest_93 : decode cX6_digest 93 = .ok (.iconst 4, 1) := by decide +kernel
theorem dX6_digest_94 : decode cX6_digest 94 = .ok (.if_icmp .ge 72, 3) := by decide +kernel
theorem dX6_digest_97 : decode cX6_digest 97 = .ok (.iload 4, 2) := by decide +kernel
theorem dX6_digest_99 : decode cX6_digest 99 = .ok (.iload_n 3, 1) := by decide +kernel
theorem dX6_digest_100 : decode cX6_digest 100 = .ok (.invokestatic 87, 3) := by decide +kernel
theorem dX6_digest_103 : decode cX6_digest 103 = .ok (.istore 5, 2) := by decide +kernel
theorem dX6_digest_105 : decode cX6_digest 105 = .ok (.lload_n 1, 1) := by decide +kernel
theorem dX6_digest_106 : decode cX6_digest 106 = .ok (.ldc2_w 178, 3) := by decide +kernel
theorem dX6_digest_109 : decode cX6_digest 109 = .ok (.lmul, 1) := by decide +kernel
theorem dX6_digest_110 : decode cX6_digest 110 = .ok (.aload_n 0, 1) := by decide +kernel
theorem dX6_digest_111 : decode cX6_digest 111 = .ok (.getfield 16, 3) := by decide +kernel
theorem dX6_digest_114 : decode cX6_digest 114 = .ok (.iload 5, 2) := by decide +kernel
theorem dX6_digest_116 : decode cX6_digest 116 = .ok (.iaload, 1) := by decide +kernel
theorem dX6_digest_117 : decode cX6_digest 117 = .ok (.i2l, 1) := by decide +kernel
theorem dX6_digest_118 : decode cX6_digest 118 = .ok (.ladd, 1) := by decide +kernel
theorem dX6_digest_119 : decode cX6_digest 119 = .ok (.ldc2_w 178, 3) := by decide +kernel
theorem dX6_digest_122 : decode cX6_digest 122 = .ok (.lmul, 1) := by decide +kernel
theorem dX6_digest_123 : decode cX6_digest 123 = .ok (.aload_n 0, 1) := by decide +kernel
theorem dX6_digest_124 : decode cX6_digest 124 = .ok (.getfield 16, 3) := by decide +kernel
theorem dX6_digest_127 : decode cX6_digest 127 = .ok (.iload 5, 2) := by decide +kernel
theorem dX6_digest_129 : decode cX6_digest 129 = .ok (.iaload, 1) := by decide +kernel
theorem dX6_digest_130 : decode cX6_digest 130 = .ok (.ifCond .le 13, 3) := by decide +kernel
theorem dX6_digest_133 : decode cX6_digest 133 = .ok (.aload_n 0, 1) := by decide +kernel
theorem dX6_digest_134 : decode cX6_digest 134 = .ok (.getfield 19, 3) := by decide +kernel
theorem dX6_digest_137 : decode cX6_digest 137 = .ok (.iload 5, 2) := by decide +kernel
theorem dX6_digest_139 : decode cX6_digest 139 = .ok (.iaload, 1) := by decide +kernel
theorem dX6_digest_140 : decode cX6_digest 140 = .ok (.goto 4, 3) := by decide +kernel
theorem dX6_digest_143 : decode cX6_digest 143 = .ok (.iconst (-1), 1) := by decide +kernel
theorem dX6_digest_144 : decode cX6_digest 144 = .ok (.i2l, 1) := by decide +kernel
theorem dX6_digest_145 : decode cX6_digest 145 = .ok (.ladd, 1) := by decide +kernel
theorem dX6_digest_146 : decode cX6_digest 146 = .ok (.ldc2_w 178, 3) := by decide +kernel
theorem dX6_digest_149 : decode cX6_digest 149 = .ok (.lmul, 1) := by decide +kernel
theorem dX6_digest_150 : decode cX6_digest 150 = .ok (.aload_n 0, 1) := by decide +kernel
theorem dX6_digest_151 : decode cX6_digest 151 = .ok (.getfield 25, 3) := by decide +kernel
theorem dX6_digest_154 : decode cX6_digest 154 = .ok (.iload 5, 2) := by decide +kernel
theorem dX6_digest_156 : decode cX6_digest 156 = .ok (.iaload, 1) := by decide +kernel
theorem dX6_digest_157 : decode cX6_digest 157 = .ok (.i2l, 1) := by decide +kernel
theorem dX6_digest_158 : decode cX6_digest 158 = .ok (.ladd, 1) := by decide +kernel
theorem dX6_digest_159 : decode cX6_digest 159 = .ok (.lstore_n 1, 1) := by decide +kernel
theorem dX6_digest_160 : decode cX6_digest 160 = .ok (.iinc 4 1, 3) := by decide +kernel
theorem dX6_digest_163 : decode cX6_digest 163 = .ok (.goto (-72), 3) := by decide +kernel
theorem dX6_digest_166 : decode cX6_digest 166 = .ok (.iinc 3 1, 3) := by decide +kernel
theorem dX6_digest_169 : decode cX6_digest 169 = .ok (.goto (-158), 3) := by decide +kernel
theorem dX6_digest_172 : decode cX6_digest 172 = .ok (.iconst 0, 1) := by decide +kernel
theorem dX6_digest_173 : decode cX6_digest 173 = .ok (.istore_n 3, 1) := by decide +kernel
theorem dX6_digest_174 : decode cX6_digest 174 = .ok (.iload_n 3, 1) := by decide +kernel
theorem dX6_digest_175 : decode cX6_digest 175 = .ok (.iconst 4, 1) := by decide +kernel
theorem dX6_digest_176 : decode cX6_digest 176 = .ok (.if_icmp .ge 23, 3) := by decide +kernel
theorem dX6_digest_179 : decode cX6_digest 179 = .ok (.lload_n 1, 1) := by decide +kernel
theorem dX6_digest_180 : decode cX6_digest 180 = .ok (.ldc2_w 178, 3) := by decide +kernel
theorem dX6_digest_183 : decode cX6_digest 183 = .ok (.lmul, 1) := by decide +kernel
theorem dX6_digest_184 : decode cX6_digest 184 = .ok (.aload_n 0, 1) := by decide +kernel
theorem dX6_digest_185 : decode cX6_digest 185 = .ok (.getfield 37, 3) := by decide +kernel
theorem dX6_digest_188 : decode cX6_digest 188 = .ok (.iload_n 3, 1) := by decide +kernel
theorem dX6_digest_189 : decode cX6_digest 189 = .ok (.iaload, 1) := by decide +kernel
theorem dX6_digest_190 : decode cX6_digest 190 = .ok (.i2l, 1) := by decide +kernel
theorem dX6_digest_191 : decode cX6_digest 191 = .ok (.ladd, 1) := by decide +kernel
theorem dX6_digest_192 : decode cX6_digest 192 = .ok (.lstore_n 1, 1) := by decide +kernel
theorem dX6_digest_193 : decode cX6_digest 193 = .ok (.iinc 3 1, 3) := by decide +kernel
theorem dX6_digest_196 : decode cX6_digest 196 = .ok (.goto (-22), 3) := by decide +kernel
theorem dX6_digest_199 : decode cX6_digest 199 = .ok (.iconst 0, 1) := by decide +kernel
theorem dX6_digest_200 : decode cX6_digest 200 = .ok (.istore_n 3, 1) := by decide +kernel
theorem dX6_digest_201 : decode cX6_digest 201 = .ok (.iload_n 3, 1) := by decide +kernel
theorem dX6_digest_202 : decode cX6_digest 202 = .ok (.aload_n 0, 1) := by decide +kernel
theorem dX6_digest_203 : decode cX6_digest 203 = .ok (.getfield 94, 3) := by decide +kernel
theorem dX6_digest_206 : decode cX6_digest 206 = .ok (.if_icmp .ge 44, 3) := by decide +kernel
theorem dX6_digest_209 : decode cX6_digest 209 = .ok (.iconst 0, 1) := by decide +kernel
theorem dX6_digest_210 : decode cX6_digest 210 = .ok (.istore 4, 2) := by decide +kernel
theorem dX6_digest_212 : decode cX6_digest 212 = .ok (.iload 4, 2) := by decide +kernel
theorem dX6_digest_214 : decode cX6_digest 214 = .ok (.iconst 3, 1) := by decide +kernel
theorem dX6_digest_215 : decode cX6_digest 215 = .ok (.if_icmp .gt 29, 3) := by decide +kernel
theorem dX6_digest_218 : decode cX6_digest 218 = .ok (.lload_n 1, 1) := by decide +kernel
theorem dX6_digest_219 : decode cX6_digest 219 = .ok (.ldc2_w 178, 3) := by decide +kernel
theorem dX6_digest_222 : decode cX6_digest 222 = .ok (.lmul, 1) := by decide +kernel
theorem dX6_digest_223 : decode cX6_digest 223 = .ok (.aload_n 0, 1) := by decide +kernel
theorem dX6_digest_224 : decode cX6_digest 224 = .ok (.getfield 77, 3) := by decide +kernel
theorem dX6_digest_227 : decode cX6_digest 227 = .ok (.bipush 7, 2) := by decide +kernel
theorem dX6_digest_229 : decode cX6_digest 229 = .ok (.iload_n 3, 1) := by decide +kernel
theorem dX6_digest_230 : decode cX6_digest 230 = .ok (.imul, 1) := by decide +kernel
theorem dX6_digest_231 : decode cX6_digest 231 = .ok (.iload 4, 2) := by decide +kernel
theorem dX6_digest_233 : decode cX6_digest 233 = .ok (.iadd, 1) := by decide +kernel
theorem dX6_digest_234 : decode cX6_digest 234 = .ok (.iaload, 1) := by decide +kernel
theorem dX6_digest_235 : decode cX6_digest 235 = .ok (.i2l, 1) := by decide +kernel
theorem dX6_digest_236 : decode cX6_digest 236 = .ok (.ladd, 1) := by decide +kernel
theorem dX6_digest_237 : decode cX6_digest 237 = .ok (.lstore_n 1, 1) := by decide +kernel
theorem dX6_digest_238 : decode cX6_digest 238 = .ok (.iinc 4 1, 3) := by decide +kernel
theorem dX6_digest_241 : decode cX6_digest 241 = .ok (.goto (-29), 3) := by decide +kernel
theorem dX6_digest_244 : decode cX6_digest 244 = .ok (.iinc 3 1, 3) := by decide +kernel
theorem dX6_digest_247 : decode cX6_digest 247 = .ok (.goto (-46), 3) := by decide +kernel
theorem dX6_digest_250 : decode cX6_digest 250 = .ok (.lload_n 1, 1) := by decide +kernel
theorem dX6_digest_251 : decode cX6_digest 251 = .ok (.lreturn, 1) := by decide +kernel
