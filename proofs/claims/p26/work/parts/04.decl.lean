theorem dL_cell_0 : decode cL_cell 0 = .ok (.iload_n 1, 1) := by decide +kernel
theorem dL_cell_1 : decode cL_cell 1 = .ok (.aload_n 0, 1) := by decide +kernel
theorem dL_cell_2 : decode cL_cell 2 = .ok (.arraylength, 1) := by decide +kernel
theorem dL_cell_3 : decode cL_cell 3 = .ok (.if_icmp .ge 9, 3) := by decide +kernel
theorem dL_cell_6 : decode cL_cell 6 = .ok (.aload_n 0, 1) := by decide +kernel
theorem dL_cell_7 : decode cL_cell 7 = .ok (.iload_n 1, 1) := by decide +kernel
theorem dL_cell_8 : decode cL_cell 8 = .ok (.iaload, 1) := by decide +kernel
theorem dL_cell_9 : decode cL_cell 9 = .ok (.goto 10, 3) := by decide +kernel
theorem dL_cell_12 : decode cL_cell 12 = .ok (.ldc 7, 2) := by decide +kernel
theorem dL_cell_14 : decode cL_cell 14 = .ok (.iload_n 1, 1) := by decide +kernel
theorem dL_cell_15 : decode cL_cell 15 = .ok (.bipush 37, 2) := by decide +kernel
theorem dL_cell_17 : decode cL_cell 17 = .ok (.iadd, 1) := by decide +kernel
theorem dL_cell_18 : decode cL_cell 18 = .ok (.imul, 1) := by decide +kernel
theorem dL_cell_19 : decode cL_cell 19 = .ok (.ldc 8, 2) := by decide +kernel
theorem dL_cell_21 : decode cL_cell 21 = .ok (.iand, 1) := by decide +kernel
theorem dL_cell_22 : decode cL_cell 22 = .ok (.ireturn, 1) := by decide +kernel
theorem dL_rank_0 : decode cL_rank 0 = .ok (.aload_n 0, 1) := by decide +kernel
theorem dL_rank_1 : decode cL_rank 1 = .ok (.iload_n 1, 1) := by decide +kernel
theorem dL_rank_2 : decode cL_rank 2 = .ok (.iload_n 2, 1) := by decide +kernel
theorem dL_rank_3 : decode cL_rank 3 = .ok (.iconst 0, 1) := by decide +kernel
theorem dL_rank_4 : decode cL_rank 4 = .ok (.invokevirtual 9, 3) := by decide +kernel
theorem dL_rank_7 : decode cL_rank 7 = .ok (.ifCond .ge 7, 3) := by decide +kernel
theorem dL_rank_10 : decode cL_rank 10 = .ok (.iconst 0, 1) := by decide +kernel
theorem dL_rank_11 : decode cL_rank 11 = .ok (.goto 21, 3) := by decide +kernel
theorem dL_rank_14 : decode cL_rank 14 = .ok (.bipush 8, 2) := by decide +kernel
theorem dL_rank_16 : decode cL_rank 16 = .ok (.aload_n 0, 1) := by decide +kernel
theorem dL_rank_17 : decode cL_rank 17 = .ok (.iload_n 1, 1) := by decide +kernel
theorem dL_rank_18 : decode cL_rank 18 = .ok (.iload_n 2, 1) := by decide +kernel
theorem dL_rank_19 : decode cL_rank 19 = .ok (.iconst 1, 1) := by decide +kernel
theorem dL_rank_20 : decode cL_rank 20 = .ok (.invokevirtual 9, 3) := by decide +kernel
theorem dL_rank_23 : decode cL_rank 23 = .ok (.imul, 1) := by decide +kernel
theorem dL_rank_24 : decode cL_rank 24 = .ok (.aload_n 0, 1) := by decide +kernel
theorem dL_rank_25 : decode cL_rank 25 = .ok (.iload_n 1, 1) := by decide +kernel
theorem dL_rank_26 : decode cL_rank 26 = .ok (.iload_n 2, 1) := by decide +kernel
theorem dL_rank_27 : decode cL_rank 27 = .ok (.iconst 2, 1) := by decide +kernel
theorem dL_rank_28 : decode cL_rank 28 = .ok (.invokevirtual 9, 3) := by decide +kernel
theorem dL_rank_31 : decode cL_rank 31 = .ok (.iadd, 1) := by decide +kernel
theorem dL_rank_32 : decode cL_rank 32 = .ok (.ireturn, 1) := by decide +kernel
theorem dL_holds_0 : decode cL_holds 0 = .ok (.iconst 0, 1) := by decide +kernel
theorem dL_holds_1 : decode cL_holds 1 = .ok (.istore_n 1, 1) := by decide +kernel
theorem dL_holds_2 : decode cL_holds 2 = .ok (.iconst 0, 1) := by decide +kernel
theorem dL_holds_3 : decode cL_holds 3 = .ok (.istore_n 2, 1) := by decide +kernel
theorem dL_holds_4 : decode cL_holds 4 = .ok (.iconst 0, 1) := by decide +kernel
theorem dL_holds_5 : decode cL_holds 5 = .ok (.istore_n 3, 1) := by decide +kernel
theorem dL_holds_6 : decode cL_holds 6 = .ok (.iconst 0, 1) := by decide +kernel
theorem dL_holds_7 : decode cL_holds 7 = .ok (.istore 4, 2) := by decide +kernel
theorem dL_holds_9 : decode cL_holds 9 = .ok (.iconst 0, 1) := by decide +kernel
theorem dL_holds_10 : decode cL_holds 10 = .ok (.istore 5, 2) := by decide +kernel
theorem dL_holds_12 : decode cL_holds 12 = .ok (.iconst 0, 1) := by decide +kernel
theorem dL_holds_13 : decode cL_holds 13 = .ok (.istore 6, 2) := by decide +kernel
theorem dL_holds_15 : decode cL_holds 15 = .ok (.iconst 1, 1) := by decide +kernel
theorem dL_holds_16 : decode cL_holds 16 = .ok (.istore 7, 2) := by decide +kernel
theorem dL_holds_18 : decode cL_holds 18 = .ok (.iconst 0, 1) := by decide +kernel
theorem dL_holds_19 : decode cL_holds 19 = .ok (.istore 8, 2) := by decide +kernel
theorem dL_holds_21 : decode cL_holds 21 = .ok (.iload 8, 2) := by decide +kernel
theorem dL_holds_23 : decode cL_holds 23 = .ok (.aload_n 0, 1) := by decide +kernel
theorem dL_holds_24 : decode cL_holds 24 = .ok (.iconst 0, 1) := by decide +kernel
theorem dL_holds_25 : decode cL_holds 25 = .ok (.invokevirtual 15, 3) := by decide +kernel
theorem dL_holds_28 : decode cL_holds 28 = .ok (.if_icmp .ge 382, 3) := by decide +kernel
theorem dL_holds_31 : decode cL_holds 31 = .ok (.iload 7, 2) := by decide +kernel
theorem dL_holds_33 : decode cL_holds 33 = .ok (.ifCond .eq 377, 3) := by decide +kernel
theorem dL_holds_36 : decode cL_holds 36 = .ok (.aload_n 0, 1) := by decide +kernel
theorem dL_holds_37 : decode cL_holds 37 = .ok (.iload 8, 2) := by decide +kernel
theorem dL_holds_39 : decode cL_holds 39 = .ok (.iconst 0, 1) := by decide +kernel
theorem dL_holds_40 : decode cL_holds 40 = .ok (.invokevirtual 19, 3) := by decide +kernel
theorem dL_holds_43 : decode cL_holds 43 = .ok (.istore 9, 2) := by decide +kernel
theorem dL_holds_45 : decode cL_holds 45 = .ok (.iload_n 1, 1) := by decide +kernel
theorem dL_holds_46 : decode cL_holds 46 = .ok (.iload 9, 2) := by decide +kernel
theorem dL_holds_48 : decode cL_holds 48 = .ok (.ifCond .ne 7, 3) := by decide +kernel
theorem dL_holds_51 : decode cL_holds 51 = .ok (.iconst 1, 1) := by decide +kernel
theorem dL_holds_52 : decode cL_holds 52 = .ok (.goto 4, 3) := by decide +kernel
theorem dL_holds_55 : decode cL_holds 55 = .ok (.iconst 0, 1) := by decide +kernel
theorem dL_holds_56 : decode cL_holds 56 = .ok (.iadd, 1) := by decide +kernel
theorem dL_holds_57 : decode cL_holds 57 = .ok (.istore_n 1, 1) := by decide +kernel
theorem dL_holds_58 : decode cL_holds 58 = .ok (.iload_n 2, 1) := by decide +kernel
theorem dL_holds_59 : decode cL_holds 59 = .ok (.iload 9, 2) := by decide +kernel
theorem dL_holds_61 : decode cL_holds 61 = .ok (.iconst 1, 1) := by decide +kernel
theorem dL_holds_62 : decode cL_holds 62 = .ok (.if_icmp .ne 7, 3) := by decide +kernel
theorem dL_holds_65 : decode cL_holds 65 = .ok (.iconst 1, 1) := by decide +kernel
theorem dL_holds_66 : decode cL_holds 66 = .ok (.goto 4, 3) := by decide +kernel
theorem dL_holds_69 : decode cL_holds 69 = .ok (.iconst 0, 1) := by decide +kernel
theorem dL_holds_70 : decode cL_holds 70 = .ok (.iadd, 1) := by decide +kernel
theorem dL_holds_71 : decode cL_holds 71 = .ok (.istore_n 2, 1) := by decide +kernel
theorem dL_holds_72 : decode cL_holds 72 = .ok (.iload 6, 2) := by decide +kernel
theorem dL_holds_74 : decode cL_holds 74 = .ok (.aload_n 0, 1) := by decide +kernel
theorem dL_holds_75 : decode cL_holds 75 = .ok (.iload 8, 2) := by decide +kernel
theorem dL_holds_77 : decode cL_holds 77 = .ok (.iconst 4, 1) := by decide +kernel
theorem dL_holds_78 : decode cL_holds 78 = .ok (.invokevirtual 19, 3) := by decide +kernel
theorem dL_holds_81 : decode cL_holds 81 = .ok (.iadd, 1) := by decide +kernel
theorem dL_holds_82 : decode cL_holds 82 = .ok (.istore 6, 2) := by decide +kernel
theorem dL_holds_84 : decode cL_holds 84 = .ok (.aload_n 0, 1) := by decide +kernel
theorem dL_holds_85 : decode cL_holds 85 = .ok (.iload 8, 2) := by decide +kernel
theorem dL_holds_87 : decode cL_holds 87 = .ok (.iconst 2, 1) := by decide +kernel
theorem dL_holds_88 : decode cL_holds 88 = .ok (.invokevirtual 19, 3) := by decide +kernel
theorem dL_holds_91 : decode cL_holds 91 = .ok (.istore 10, 2) := by decide +kernel
theorem dL_holds_93 : decode cL_holds 93 = .ok (.aload_n 0, 1) := by decide +kernel
theorem dL_holds_94 : decode cL_holds 94 = .ok (.iload 8, 2) := by decide +kernel
theorem dL_holds_96 : decode cL_holds 96 = .ok (.iconst 3, 1) := by decide +kernel
theorem dL_holds_97 : decode cL_holds 97 = .ok (.invokevirtual 19, 3) := by decide +kernel
theorem dL_holds_100 : decode cL_holds 100 = .ok (.istore 11, 2) := by decide +kernel
theorem dL_holds_102 : decode cL_holds 102 = .ok (.iload 10, 2) := by decide +kernel
theorem dL_holds_104 : decode cL_holds 104 = .ok (.iload 11, 2) := by decide +kernel
theorem dL_holds_106 : decode cL_holds 106 = .ok (.iand, 1) := by decide +kernel
theorem dL_holds_107 : decode cL_holds 107 = .ok (.ifCond .ne 64, 3) := by decide +kernel
theorem dL_holds_110 : decode cL_holds 110 = .ok (.iload 9, 2) := by decide +kernel
theorem dL_holds_112 : decode cL_holds 112 = .ok (.iconst 2, 1) := by decide +kernel
theorem dL_holds_113 : decode cL_holds 113 = .ok (.if_icmp .lt 11, 3) := by decide +kernel
theorem dL_holds_116 : decode cL_holds 116 = .ok (.iload 10, 2) := by decide +kernel
theorem dL_holds_118 : decode cL_holds 118 = .ok (.iload 11, 2) := by decide +kernel
theorem dL_holds_120 : decode cL_holds 120 = .ok (.iadd, 1) := by decide +kernel
theorem dL_holds_121 : decode cL_holds 121 = .ok (.ifCond .ne 50, 3) := by decide +kernel
theorem dL_holds_124 : decode cL_holds 124 = .ok (.aload_n 0, 1) := by decide +kernel
theorem dL_holds_125 : decode cL_holds 125 = .ok (.iload 8, 2) := by decide +kernel
theorem dL_holds_127 : decode cL_holds 127 = .ok (.invokevirtual 23, 3) := by decide +kernel
theorem dL_holds_130 : decode cL_holds 130 = .ok (.iload 10, 2) := by decide +kernel
theorem dL_holds_132 : decode cL_holds 132 = .ok (.iconst (-1), 1) := by decide +kernel
theorem dL_holds_133 : decode cL_holds 133 = .ok (.ixor, 1) := by decide +kernel
theorem dL_holds_134 : decode cL_holds 134 = .ok (.iand, 1) := by decide +kernel
theorem dL_holds_135 : decode cL_holds 135 = .ok (.ifCond .ne 36, 3) := by decide +kernel
theorem dL_holds_138 : decode cL_holds 138 = .ok (.aload_n 0, 1) := by decide +kernel
theorem dL_holds_139 : decode cL_holds 139 = .ok (.iload 8, 2) := by decide +kernel
theorem dL_holds_141 : decode cL_holds 141 = .ok (.iconst 5, 1) := by decide +kernel
theorem dL_holds_142 : decode cL_holds 142 = .ok (.invokevirtual 19, 3) := by decide +kernel
theorem dL_holds_145 : decode cL_holds 145 = .ok (.ifCond .lt 7, 3) := by decide +kernel
theorem dL_holds_148 : decode cL_holds 148 = .ok (.iconst 1, 1) := by decide +kernel
theorem dL_holds_149 : decode cL_holds 149 = .ok (.goto 4, 3) := by decide +kernel
theorem dL_holds_152 : decode cL_holds 152 = .ok (.iconst 0, 1) := by decide +kernel
theorem dL_holds_153 : decode cL_holds 153 = .ok (.iload 9, 2) := by decide +kernel
theorem dL_holds_155 : decode cL_holds 155 = .ok (.iconst 1, 1) := by decide +kernel
theorem dL_holds_156 : decode cL_holds 156 = .ok (.if_icmp .ne 7, 3) := by decide +kernel
theorem dL_holds_159 : decode cL_holds 159 = .ok (.iconst 1, 1) := by decide +kernel
theorem dL_holds_160 : decode cL_holds 160 = .ok (.goto 4, 3) := by decide +kernel
theorem dL_holds_163 : decode cL_holds 163 = .ok (.iconst 0, 1) := by decide +kernel
theorem dL_holds_164 : decode cL_holds 164 = .ok (.if_icmp .ne 7, 3) := by decide +kernel
theorem dL_holds_167 : decode cL_holds 167 = .ok (.iconst 1, 1) := by decide +kernel
theorem dL_holds_168 : decode cL_holds 168 = .ok (.goto 4, 3) := by decide +kernel
theorem dL_holds_171 : decode cL_holds 171 = .ok (.iconst 0, 1) := by decide +kernel
theorem dL_holds_172 : decode cL_holds 172 = .ok (.istore 7, 2) := by decide +kernel
theorem dL_holds_174 : decode cL_holds 174 = .ok (.iconst 0, 1) := by decide +kernel
theorem dL_holds_175 : decode cL_holds 175 = .ok (.istore 12, 2) := by decide +kernel
theorem dL_holds_177 : decode cL_holds 177 = .ok (.iload 12, 2) := by decide +kernel
theorem dL_holds_179 : decode cL_holds 179 = .ok (.bipush 12, 2) := by decide +kernel
theorem dL_holds_181 : decode cL_holds 181 = .ok (.if_icmp .ge 223, 3) := by decide +kernel
theorem dL_holds_184 : decode cL_holds 184 = .ok (.iload 7, 2) := by decide +kernel
theorem dL_holds_186 : decode cL_holds 186 = .ok (.ifCond .eq 218, 3) := by decide +kernel
theorem dL_holds_189 : decode cL_holds 189 = .ok (.aload_n 0, 1) := by decide +kernel
theorem dL_holds_190 : decode cL_holds 190 = .ok (.iload 8, 2) := by decide +kernel
theorem dL_holds_192 : decode cL_holds 192 = .ok (.iload 12, 2) := by decide +kernel
theorem dL_holds_194 : decode cL_holds 194 = .ok (.iconst 0, 1) := by decide +kernel
theorem dL_holds_195 : decode cL_holds 195 = .ok (.invokevirtual 9, 3) := by decide +kernel
theorem dL_holds_198 : decode cL_holds 198 = .ok (.istore 13, 2) := by decide +kernel
theorem dL_holds_200 : decode cL_holds 200 = .ok (.iload_n 3, 1) := by decide +kernel
theorem dL_holds_201 : decode cL_holds 201 = .ok (.iload 13, 2) := by decide +kernel
theorem dL_holds_203 : decode cL_holds 203 = .ok (.ifCond .ne 7, 3) := by decide +kernel
theorem dL_holds_206 : decode cL_holds 206 = .ok (.iconst 1, 1) := by decide +kernel
theorem dL_holds_207 : decode cL_holds 207 = .ok (.goto 4, 3) := by decide +kernel
theorem dL_holds_210 : decode cL_holds 210 = .ok (.iconst 0, 1) := by decide +kernel
theorem dL_holds_211 : decode cL_holds 211 = .ok (.iadd, 1) := by decide +kernel
theorem dL_holds_212 : decode cL_holds 212 = .ok (.istore_n 3, 1) := by decide +kernel
theorem dL_holds_213 : decode cL_holds 213 = .ok (.iload 4, 2) := by decide +kernel
theorem dL_holds_215 : decode cL_holds 215 = .ok (.iload 13, 2) := by decide +kernel
theorem dL_holds_217 : decode cL_holds 217 = .ok (.iconst 1, 1) := by decide +kernel
theorem dL_holds_218 : decode cL_holds 218 = .ok (.if_icmp .ne 7, 3) := by decide +kernel
theorem dL_holds_221 : decode cL_holds 221 = .ok (.iconst 1, 1) := by decide +kernel
theorem dL_holds_222 : decode cL_holds 222 = .ok (.goto 4, 3) := by decide +kernel
theorem dL_holds_225 : decode cL_holds 225 = .ok (.iconst 0, 1) := by decide +kernel
theorem dL_holds_226 : decode cL_holds 226 = .ok (.iadd, 1) := by decide +kernel
theorem dL_holds_227 : decode cL_holds 227 = .ok (.istore 4, 2) := by decide +kernel
theorem dL_holds_229 : decode cL_holds 229 = .ok (.iload 5, 2) := by decide +kernel
theorem dL_holds_231 : decode cL_holds 231 = .ok (.aload_n 0, 1) := by decide +kernel
theorem dL_holds_232 : decode cL_holds 232 = .ok (.iload 8, 2) := by decide +kernel
theorem dL_holds_234 : decode cL_holds 234 = .ok (.invokevirtual 23, 3) := by decide +kernel
theorem dL_holds_237 : decode cL_holds 237 = .ok (.iload 12, 2) := by decide +kernel
theorem dL_holds_239 : decode cL_holds 239 = .ok (.ishr, 1) := by decide +kernel
theorem dL_holds_240 : decode cL_holds 240 = .ok (.iconst 1, 1) := by decide +kernel
theorem dL_holds_241 : decode cL_holds 241 = .ok (.iand, 1) := by decide +kernel
theorem dL_holds_242 : decode cL_holds 242 = .ok (.iadd, 1) := by decide +kernel
theorem dL_holds_243 : decode cL_holds 243 = .ok (.istore 5, 2) := by decide +kernel
theorem dL_holds_245 : decode cL_holds 245 = .ok (.iload 10, 2) := by decide +kernel
theorem dL_holds_247 : decode cL_holds 247 = .ok (.iload 12, 2) := by decide +kernel
theorem dL_holds_249 : decode cL_holds 249 = .ok (.ishr, 1) := by decide +kernel
theorem dL_holds_250 : decode cL_holds 250 = .ok (.iconst 1, 1) := by decide +kernel
theorem dL_holds_251 : decode cL_holds 251 = .ok (.iand, 1) := by decide +kernel
theorem dL_holds_252 : decode cL_holds 252 = .ok (.iload 13, 2) := by decide +kernel
theorem dL_holds_254 : decode cL_holds 254 = .ok (.ifCond .ne 7, 3) := by decide +kernel
theorem dL_holds_257 : decode cL_holds 257 = .ok (.iconst 1, 1) := by decide +kernel
theorem dL_holds_258 : decode cL_holds 258 = .ok (.goto 4, 3) := by decide +kernel
theorem dL_holds_261 : decode cL_holds 261 = .ok (.iconst 0, 1) := by decide +kernel
theorem dL_holds_262 : decode cL_holds 262 = .ok (.if_icmp .ne 133, 3) := by decide +kernel
theorem dL_holds_265 : decode cL_holds 265 = .ok (.iload 11, 2) := by decide +kernel
theorem dL_holds_267 : decode cL_holds 267 = .ok (.iload 12, 2) := by decide +kernel
theorem dL_holds_269 : decode cL_holds 269 = .ok (.ishr, 1) := by decide +kernel
theorem dL_holds_270 : decode cL_holds 270 = .ok (.iconst 1, 1) := by decide +kernel
theorem dL_holds_271 : decode cL_holds 271 = .ok (.iand, 1) := by decide +kernel
theorem dL_holds_272 : decode cL_holds 272 = .ok (.iload 13, 2) := by decide +kernel
theorem dL_holds_274 : decode cL_holds 274 = .ok (.iconst 1, 1) := by decide +kernel
theorem dL_holds_275 : decode cL_holds 275 = .ok (.if_icmp .ne 7, 3) := by decide +kernel
theorem dL_holds_278 : decode cL_holds 278 = .ok (.iconst 1, 1) := by decide +kernel
theorem dL_holds_279 : decode cL_holds 279 = .ok (.goto 4, 3) := by decide +kernel
theorem dL_holds_282 : decode cL_holds 282 = .ok (.iconst 0, 1) := by decide +kernel
theorem dL_holds_283 : decode cL_holds 283 = .ok (.if_icmp .ne 112, 3) := by decide +kernel
theorem dL_holds_286 : decode cL_holds 286 = .ok (.iload 13, 2) := by decide +kernel
theorem dL_holds_288 : decode cL_holds 288 = .ok (.iconst 1, 1) := by decide +kernel
theorem dL_holds_289 : decode cL_holds 289 = .ok (.if_icmp .ne 65, 3) := by decide +kernel
theorem dL_holds_292 : decode cL_holds 292 = .ok (.aload_n 0, 1) := by decide +kernel
theorem dL_holds_293 : decode cL_holds 293 = .ok (.iload 8, 2) := by decide +kernel
theorem dL_holds_295 : decode cL_holds 295 = .ok (.iload 12, 2) := by decide +kernel
theorem dL_holds_297 : decode cL_holds 297 = .ok (.bipush 6, 2) := by decide +kernel
theorem dL_holds_299 : decode cL_holds 299 = .ok (.invokevirtual 9, 3) := by decide +kernel
theorem dL_holds_302 : decode cL_holds 302 = .ok (.iload 8, 2) := by decide +kernel
theorem dL_holds_304 : decode cL_holds 304 = .ok (.ishr, 1) := by decide +kernel
theorem dL_holds_305 : decode cL_holds 305 = .ok (.iconst 1, 1) := by decide +kernel
theorem dL_holds_306 : decode cL_holds 306 = .ok (.iand, 1) := by decide +kernel
theorem dL_holds_307 : decode cL_holds 307 = .ok (.iconst 1, 1) := by decide +kernel
theorem dL_holds_308 : decode cL_holds 308 = .ok (.if_icmp .ne 87, 3) := by decide +kernel
theorem dL_holds_311 : decode cL_holds 311 = .ok (.aload_n 0, 1) := by decide +kernel
theorem dL_holds_312 : decode cL_holds 312 = .ok (.iload 8, 2) := by decide +kernel
theorem dL_holds_314 : decode cL_holds 314 = .ok (.iload 12, 2) := by decide +kernel
theorem dL_holds_316 : decode cL_holds 316 = .ok (.bipush 6, 2) := by decide +kernel
theorem dL_holds_318 : decode cL_holds 318 = .ok (.invokevirtual 9, 3) := by decide +kernel
theorem dL_holds_321 : decode cL_holds 321 = .ok (.aload_n 0, 1) := by decide +kernel
theorem dL_holds_322 : decode cL_holds 322 = .ok (.iload 8, 2) := by decide +kernel
theorem dL_holds_324 : decode cL_holds 324 = .ok (.iload 12, 2) := by decide +kernel
theorem dL_holds_326 : decode cL_holds 326 = .ok (.iconst 2, 1) := by decide +kernel
theorem dL_holds_327 : decode cL_holds 327 = .ok (.invokevirtual 9, 3) := by decide +kernel
theorem dL_holds_330 : decode cL_holds 330 = .ok (.ishr, 1) := by decide +kernel
theorem dL_holds_331 : decode cL_holds 331 = .ok (.iconst 1, 1) := by decide +kernel
theorem dL_holds_332 : decode cL_holds 332 = .ok (.iand, 1) := by decide +kernel
theorem dL_holds_333 : decode cL_holds 333 = .ok (.iconst 1, 1) := by decide +kernel
theorem dL_holds_334 : decode cL_holds 334 = .ok (.if_icmp .ne 61, 3) := by decide +kernel
theorem dL_holds_337 : decode cL_holds 337 = .ok (.aload_n 0, 1) := by decide +kernel
theorem dL_holds_338 : decode cL_holds 338 = .ok (.iload 8, 2) := by decide +kernel
theorem dL_holds_340 : decode cL_holds 340 = .ok (.iload 12, 2) := by decide +kernel
theorem dL_holds_342 : decode cL_holds 342 = .ok (.iconst 5, 1) := by decide +kernel
theorem dL_holds_343 : decode cL_holds 343 = .ok (.invokevirtual 9, 3) := by decide +kernel
theorem dL_holds_346 : decode cL_holds 346 = .ok (.aload_n 0, 1) := by decide +kernel
theorem dL_holds_347 : decode cL_holds 347 = .ok (.iconst 3, 1) := by decide +kernel
theorem dL_holds_348 : decode cL_holds 348 = .ok (.invokevirtual 15, 3) := by decide +kernel
theorem dL_holds_351 : decode cL_holds 351 = .ok (.if_icmp .gt 44, 3) := by decide +kernel
theorem dL_holds_354 : decode cL_holds 354 = .ok (.iload 13, 2) := by decide +kernel
theorem dL_holds_356 : decode cL_holds 356 = .ok (.ifCond .lt 35, 3) := by decide +kernel
theorem dL_holds_359 : decode cL_holds 359 = .ok (.aload_n 0, 1) := by decide +kernel
theorem dL_holds_360 : decode cL_holds 360 = .ok (.iload 8, 2) := by decide +kernel
theorem dL_holds_362 : decode cL_holds 362 = .ok (.iload 12, 2) := by decide +kernel
theorem dL_holds_364 : decode cL_holds 364 = .ok (.iconst 1, 1) := by decide +kernel
theorem dL_holds_365 : decode cL_holds 365 = .ok (.invokevirtual 9, 3) := by decide +kernel
theorem dL_holds_368 : decode cL_holds 368 = .ok (.iconst 1, 1) := by decide +kernel
theorem dL_holds_369 : decode cL_holds 369 = .ok (.if_icmp .lt 26, 3) := by decide +kernel
theorem dL_holds_372 : decode cL_holds 372 = .ok (.aload_n 0, 1) := by decide +kernel
theorem dL_holds_373 : decode cL_holds 373 = .ok (.iload 8, 2) := by decide +kernel
theorem dL_holds_375 : decode cL_holds 375 = .ok (.iload 12, 2) := by decide +kernel
theorem dL_holds_377 : decode cL_holds 377 = .ok (.iconst 1, 1) := by decide +kernel
theorem dL_holds_378 : decode cL_holds 378 = .ok (.invokevirtual 9, 3) := by decide +kernel
theorem dL_holds_381 : decode cL_holds 381 = .ok (.aload_n 0, 1) := by decide +kernel
theorem dL_holds_382 : decode cL_holds 382 = .ok (.iload 8, 2) := by decide +kernel
theorem dL_holds_384 : decode cL_holds 384 = .ok (.iconst 1, 1) := by decide +kernel
theorem dL_holds_385 : decode cL_holds 385 = .ok (.invokevirtual 19, 3) := by decide +kernel
theorem dL_holds_388 : decode cL_holds 388 = .ok (.if_icmp .gt 7, 3) := by decide +kernel
theorem dL_holds_391 : decode cL_holds 391 = .ok (.iconst 1, 1) := by decide +kernel
theorem dL_holds_392 : decode cL_holds 392 = .ok (.goto 4, 3) := by decide +kernel
theorem dL_holds_395 : decode cL_holds 395 = .ok (.iconst 0, 1) := by decide +kernel
theorem dL_holds_396 : decode cL_holds 396 = .ok (.istore 7, 2) := by decide +kernel
theorem dL_holds_398 : decode cL_holds 398 = .ok (.iinc 12 1, 3) := by decide +kernel
theorem dL_holds_401 : decode cL_holds 401 = .ok (.goto (-224), 3) := by decide +kernel
theorem dL_holds_404 : decode cL_holds 404 = .ok (.iinc 8 1, 3) := by decide +kernel
theorem dL_holds_407 : decode cL_holds 407 = .ok (.goto (-386), 3) := by decide +kernel
theorem dL_holds_410 : decode cL_holds 410 = .ok (.iload 7, 2) := by decide +kernel
theorem dL_holds_412 : decode cL_holds 412 = .ok (.ifCond .eq 67, 3) := by decide +kernel
theorem dL_holds_415 : decode cL_holds 415 = .ok (.aload_n 0, 1) := by decide +kernel
theorem dL_holds_416 : decode cL_holds 416 = .ok (.iconst 1, 1) := by decide +kernel
theorem dL_holds_417 : decode cL_holds 417 = .ok (.invokevirtual 15, 3) := by decide +kernel
theorem dL_holds_420 : decode cL_holds 420 = .ok (.iload_n 1, 1) := by decide +kernel
theorem dL_holds_421 : decode cL_holds 421 = .ok (.if_icmp .ne 58, 3) := by decide +kernel
theorem dL_holds_424 : decode cL_holds 424 = .ok (.aload_n 0, 1) := by decide +kernel
theorem dL_holds_425 : decode cL_holds 425 = .ok (.iconst 2, 1) := by decide +kernel
theorem dL_holds_426 : decode cL_holds 426 = .ok (.invokevirtual 15, 3) := by decide +kernel
theorem dL_holds_429 : decode cL_holds 429 = .ok (.iload_n 2, 1) := by decide +kernel
theorem dL_holds_430 : decode cL_holds 430 = .ok (.if_icmp .ne 49, 3) := by decide +kernel
theorem dL_holds_433 : decode cL_holds 433 = .ok (.aload_n 0, 1) := by decide +kernel
theorem dL_holds_434 : decode cL_holds 434 = .ok (.iconst 5, 1) := by decide +kernel
theorem dL_holds_435 : decode cL_holds 435 = .ok (.invokevirtual 15, 3) := by decide +kernel
theorem dL_holds_438 : decode cL_holds 438 = .ok (.iload_n 3, 1) := by decide +kernel
theorem dL_holds_439 : decode cL_holds 439 = .ok (.if_icmp .ne 40, 3) := by decide +kernel
theorem dL_holds_442 : decode cL_holds 442 = .ok (.aload_n 0, 1) := by decide +kernel
theorem dL_holds_443 : decode cL_holds 443 = .ok (.bipush 6, 2) := by decide +kernel
theorem dL_holds_445 : decode cL_holds 445 = .ok (.invokevirtual 15, 3) := by decide +kernel
theorem dL_holds_448 : decode cL_holds 448 = .ok (.iload 4, 2) := by decide +kernel
theorem dL_holds_450 : decode cL_holds 450 = .ok (.if_icmp .ne 29, 3) := by decide +kernel
theorem dL_holds_453 : decode cL_holds 453 = .ok (.aload_n 0, 1) := by decide +kernel
theorem dL_holds_454 : decode cL_holds 454 = .ok (.bipush 7, 2) := by decide +kernel
theorem dL_holds_456 : decode cL_holds 456 = .ok (.invokevirtual 15, 3) := by decide +kernel
theorem dL_holds_459 : decode cL_holds 459 = .ok (.iload 5, 2) := by decide +kernel
theorem dL_holds_461 : decode cL_holds 461 = .ok (.if_icmp .ne 18, 3) := by decide +kernel
theorem dL_holds_464 : decode cL_holds 464 = .ok (.aload_n 0, 1) := by decide +kernel
theorem dL_holds_465 : decode cL_holds 465 = .ok (.bipush 8, 2) := by decide +kernel
theorem dL_holds_467 : decode cL_holds 467 = .ok (.invokevirtual 15, 3) := by decide +kernel
theorem dL_holds_470 : decode cL_holds 470 = .ok (.iload 6, 2) := by decide +kernel
theorem dL_holds_472 : decode cL_holds 472 = .ok (.if_icmp .ne 7, 3) := by decide +kernel
theorem dL_holds_475 : decode cL_holds 475 = .ok (.iconst 1, 1) := by decide +kernel
theorem dL_holds_476 : decode cL_holds 476 = .ok (.goto 4, 3) := by decide +kernel
theorem dL_holds_479 : decode cL_holds 479 = .ok (.iconst 0, 1) := by decide +kernel
theorem dL_holds_480 : decode cL_holds 480 = .ok (.ireturn, 1) := by decide +kernel
theorem dL_meets_0 : decode cL_meets 0 = .ok (.bipush 24, 2) := by decide +kernel
theorem dL_meets_2 : decode cL_meets 2 = .ok (.newarray .int, 2) := by decide +kernel
theorem dL_meets_4 : decode cL_meets 4 = .ok (.astore_n 3, 1) := by decide +kernel
theorem dL_meets_5 : decode cL_meets 5 = .ok (.iconst 0, 1) := by decide +kernel
theorem dL_meets_6 : decode cL_meets 6 = .ok (.istore 4, 2) := by decide +kernel
theorem dL_meets_8 : decode cL_meets 8 = .ok (.iload 4, 2) := by decide +kernel
theorem dL_meets_10 : decode cL_meets 10 = .ok (.bipush 12, 2) := by decide +kernel
theorem dL_meets_12 : decode cL_meets 12 = .ok (.if_icmp .ge 34, 3) := by decide +kernel
theorem dL_meets_15 : decode cL_meets 15 = .ok (.aload_n 3, 1) := by decide +kernel
theorem dL_meets_16 : decode cL_meets 16 = .ok (.iload 4, 2) := by decide +kernel
theorem dL_meets_18 : decode cL_meets 18 = .ok (.aload_n 0, 1) := by decide +kernel
theorem dL_meets_19 : decode cL_meets 19 = .ok (.iload_n 1, 1) := by decide +kernel
theorem dL_meets_20 : decode cL_meets 20 = .ok (.iload 4, 2) := by decide +kernel
theorem dL_meets_22 : decode cL_meets 22 = .ok (.invokestatic 26, 3) := by decide +kernel
theorem dL_meets_25 : decode cL_meets 25 = .ok (.iastore, 1) := by decide +kernel
theorem dL_meets_26 : decode cL_meets 26 = .ok (.aload_n 3, 1) := by decide +kernel
theorem dL_meets_27 : decode cL_meets 27 = .ok (.bipush 12, 2) := by decide +kernel
theorem dL_meets_29 : decode cL_meets 29 = .ok (.iload 4, 2) := by decide +kernel
theorem dL_meets_31 : decode cL_meets 31 = .ok (.iadd, 1) := by decide +kernel
theorem dL_meets_32 : decode cL_meets 32 = .ok (.aload_n 0, 1) := by decide +kernel
theorem dL_meets_33 : decode cL_meets 33 = .ok (.iload_n 2, 1) := by decide +kernel
theorem dL_meets_34 : decode cL_meets 34 = .ok (.iload 4, 2) := by decide +kernel
theorem dL_meets_36 : decode cL_meets 36 = .ok (.invokestatic 26, 3) := by decide +kernel
theorem dL_meets_39 : decode cL_meets 39 = .ok (.iastore, 1) := by decide +kernel
theorem dL_meets_40 : decode cL_meets 40 = .ok (.iinc 4 1, 3) := by decide +kernel
theorem dL_meets_43 : decode cL_meets 43 = .ok (.goto (-35), 3) := by decide +kernel
theorem dL_meets_46 : decode cL_meets 46 = .ok (.aload_n 0, 1) := by decide +kernel
theorem dL_meets_47 : decode cL_meets 47 = .ok (.iload_n 1, 1) := by decide +kernel
theorem dL_meets_48 : decode cL_meets 48 = .ok (.iload_n 2, 1) := by decide +kernel
theorem dL_meets_49 : decode cL_meets 49 = .ok (.invokevirtual 32, 3) := by decide +kernel
theorem dL_meets_52 : decode cL_meets 52 = .ok (.istore 4, 2) := by decide +kernel
theorem dL_meets_54 : decode cL_meets 54 = .ok (.aload_n 0, 1) := by decide +kernel
theorem dL_meets_55 : decode cL_meets 55 = .ok (.iload_n 1, 1) := by decide +kernel
theorem dL_meets_56 : decode cL_meets 56 = .ok (.iconst 1, 1) := by decide +kernel
theorem dL_meets_57 : decode cL_meets 57 = .ok (.invokevirtual 19, 3) := by decide +kernel
theorem dL_meets_60 : decode cL_meets 60 = .ok (.aload_n 0, 1) := by decide +kernel
theorem dL_meets_61 : decode cL_meets 61 = .ok (.iload_n 2, 1) := by decide +kernel
theorem dL_meets_62 : decode cL_meets 62 = .ok (.iconst 1, 1) := by decide +kernel
theorem dL_meets_63 : decode cL_meets 63 = .ok (.invokevirtual 19, 3) := by decide +kernel
theorem dL_meets_66 : decode cL_meets 66 = .ok (.if_icmp .le 12, 3) := by decide +kernel
theorem dL_meets_69 : decode cL_meets 69 = .ok (.aload_n 0, 1) := by decide +kernel
theorem dL_meets_70 : decode cL_meets 70 = .ok (.iload_n 1, 1) := by decide +kernel
theorem dL_meets_71 : decode cL_meets 71 = .ok (.iconst 1, 1) := by decide +kernel
theorem dL_meets_72 : decode cL_meets 72 = .ok (.invokevirtual 19, 3) := by decide +kernel
theorem dL_meets_75 : decode cL_meets 75 = .ok (.goto 9, 3) := by decide +kernel
theorem dL_meets_78 : decode cL_meets 78 = .ok (.aload_n 0, 1) := by decide +kernel
theorem dL_meets_79 : decode cL_meets 79 = .ok (.iload_n 2, 1) := by decide +kernel
theorem dL_meets_80 : decode cL_meets 80 = .ok (.iconst 1, 1) := by decide +kernel
theorem dL_meets_81 : decode cL_meets 81 = .ok (.invokevirtual 19, 3) := by decide +kernel
theorem dL_meets_84 : decode cL_meets 84 = .ok (.istore 5, 2) := by decide +kernel
theorem dL_meets_86 : decode cL_meets 86 = .ok (.aload_n 0, 1) := by decide +kernel
theorem dL_meets_87 : decode cL_meets 87 = .ok (.bipush 8, 2) := by decide +kernel
theorem dL_meets_89 : decode cL_meets 89 = .ok (.invokevirtual 15, 3) := by decide +kernel
theorem dL_meets_92 : decode cL_meets 92 = .ok (.istore 6, 2) := by decide +kernel
theorem dL_meets_94 : decode cL_meets 94 = .ok (.aload_n 0, 1) := by decide +kernel
theorem dL_meets_95 : decode cL_meets 95 = .ok (.iload_n 1, 1) := by decide +kernel
theorem dL_meets_96 : decode cL_meets 96 = .ok (.iload_n 2, 1) := by decide +kernel
theorem dL_meets_97 : decode cL_meets 97 = .ok (.invokevirtual 35, 3) := by decide +kernel
theorem dL_meets_100 : decode cL_meets 100 = .ok (.istore 7, 2) := by decide +kernel
theorem dL_meets_102 : decode cL_meets 102 = .ok (.iload 7, 2) := by decide +kernel
theorem dL_meets_104 : decode cL_meets 104 = .ok (.ifCond .ge 45, 3) := by decide +kernel
theorem dL_meets_107 : decode cL_meets 107 = .ok (.iload 7, 2) := by decide +kernel
theorem dL_meets_109 : decode cL_meets 109 = .ok (.ldc 38, 2) := by decide +kernel
theorem dL_meets_111 : decode cL_meets 111 = .ok (.if_icmp .ne 36, 3) := by decide +kernel
theorem dL_meets_114 : decode cL_meets 114 = .ok (.aload_n 0, 1) := by decide +kernel
theorem dL_meets_115 : decode cL_meets 115 = .ok (.iload_n 1, 1) := by decide +kernel
theorem dL_meets_116 : decode cL_meets 116 = .ok (.iconst 0, 1) := by decide +kernel
theorem dL_meets_117 : decode cL_meets 117 = .ok (.invokevirtual 19, 3) := by decide +kernel
theorem dL_meets_120 : decode cL_meets 120 = .ok (.ifCond .gt 12, 3) := by decide +kernel
theorem dL_meets_123 : decode cL_meets 123 = .ok (.aload_n 0, 1) := by decide +kernel
theorem dL_meets_124 : decode cL_meets 124 = .ok (.iload_n 2, 1) := by decide +kernel
theorem dL_meets_125 : decode cL_meets 125 = .ok (.iconst 0, 1) := by decide +kernel
theorem dL_meets_126 : decode cL_meets 126 = .ok (.invokevirtual 19, 3) := by decide +kernel
theorem dL_meets_129 : decode cL_meets 129 = .ok (.ifCond .le 18, 3) := by decide +kernel
theorem dL_meets_132 : decode cL_meets 132 = .ok (.aload_n 0, 1) := by decide +kernel
theorem dL_meets_133 : decode cL_meets 133 = .ok (.bipush 8, 2) := by decide +kernel
theorem dL_meets_135 : decode cL_meets 135 = .ok (.invokevirtual 15, 3) := by decide +kernel
theorem dL_meets_138 : decode cL_meets 138 = .ok (.iload 6, 2) := by decide +kernel
theorem dL_meets_140 : decode cL_meets 140 = .ok (.if_icmp .ne 7, 3) := by decide +kernel
theorem dL_meets_143 : decode cL_meets 143 = .ok (.iconst 1, 1) := by decide +kernel
theorem dL_meets_144 : decode cL_meets 144 = .ok (.goto 4, 3) := by decide +kernel
theorem dL_meets_147 : decode cL_meets 147 = .ok (.iconst 0, 1) := by decide +kernel
theorem dL_meets_148 : decode cL_meets 148 = .ok (.ireturn, 1) := by decide +kernel
theorem dL_meets_149 : decode cL_meets 149 = .ok (.iconst 0, 1) := by decide +kernel
theorem dL_meets_150 : decode cL_meets 150 = .ok (.istore 8, 2) := by decide +kernel
theorem dL_meets_152 : decode cL_meets 152 = .ok (.aload_n 0, 1) := by decide +kernel
theorem dL_meets_153 : decode cL_meets 153 = .ok (.iload_n 1, 1) := by decide +kernel
theorem dL_meets_154 : decode cL_meets 154 = .ok (.iconst 1, 1) := by decide +kernel
theorem dL_meets_155 : decode cL_meets 155 = .ok (.invokevirtual 19, 3) := by decide +kernel
theorem dL_meets_158 : decode cL_meets 158 = .ok (.iload 5, 2) := by decide +kernel
theorem dL_meets_160 : decode cL_meets 160 = .ok (.if_icmp .ne 18, 3) := by decide +kernel
theorem dL_meets_163 : decode cL_meets 163 = .ok (.aload_n 0, 1) := by decide +kernel
theorem dL_meets_164 : decode cL_meets 164 = .ok (.iload_n 2, 1) := by decide +kernel
theorem dL_meets_165 : decode cL_meets 165 = .ok (.iconst 1, 1) := by decide +kernel
theorem dL_meets_166 : decode cL_meets 166 = .ok (.invokevirtual 19, 3) := by decide +kernel
theorem dL_meets_169 : decode cL_meets 169 = .ok (.iload 5, 2) := by decide +kernel
theorem dL_meets_171 : decode cL_meets 171 = .ok (.if_icmp .ne 7, 3) := by decide +kernel
theorem dL_meets_174 : decode cL_meets 174 = .ok (.iconst 1, 1) := by decide +kernel
theorem dL_meets_175 : decode cL_meets 175 = .ok (.goto 4, 3) := by decide +kernel
theorem dL_meets_178 : decode cL_meets 178 = .ok (.iconst 0, 1) := by decide +kernel
theorem dL_meets_179 : decode cL_meets 179 = .ok (.istore 9, 2) := by decide +kernel
theorem dL_meets_181 : decode cL_meets 181 = .ok (.iconst 0, 1) := by decide +kernel
theorem dL_meets_182 : decode cL_meets 182 = .ok (.istore 10, 2) := by decide +kernel
theorem dL_meets_184 : decode cL_meets 184 = .ok (.iload 10, 2) := by decide +kernel
theorem dL_meets_186 : decode cL_meets 186 = .ok (.bipush 12, 2) := by decide +kernel
theorem dL_meets_188 : decode cL_meets 188 = .ok (.if_icmp .ge 173, 3) := by decide +kernel
theorem dL_meets_191 : decode cL_meets 191 = .ok (.iload 9, 2) := by decide +kernel
theorem dL_meets_193 : decode cL_meets 193 = .ok (.ifCond .eq 168, 3) := by decide +kernel
theorem dL_meets_196 : decode cL_meets 196 = .ok (.aload_n 0, 1) := by decide +kernel
theorem dL_meets_197 : decode cL_meets 197 = .ok (.iload_n 1, 1) := by decide +kernel
theorem dL_meets_198 : decode cL_meets 198 = .ok (.iload 10, 2) := by decide +kernel
theorem dL_meets_200 : decode cL_meets 200 = .ok (.invokestatic 26, 3) := by decide +kernel
theorem dL_meets_203 : decode cL_meets 203 = .ok (.istore 11, 2) := by decide +kernel
theorem dL_meets_205 : decode cL_meets 205 = .ok (.aload_n 0, 1) := by decide +kernel
theorem dL_meets_206 : decode cL_meets 206 = .ok (.iload_n 2, 1) := by decide +kernel
theorem dL_meets_207 : decode cL_meets 207 = .ok (.iload 10, 2) := by decide +kernel
theorem dL_meets_209 : decode cL_meets 209 = .ok (.invokestatic 26, 3) := by decide +kernel
theorem dL_meets_212 : decode cL_meets 212 = .ok (.istore 12, 2) := by decide +kernel
theorem dL_meets_214 : decode cL_meets 214 = .ok (.aload_n 3, 1) := by decide +kernel
theorem dL_meets_215 : decode cL_meets 215 = .ok (.iload 10, 2) := by decide +kernel
theorem dL_meets_217 : decode cL_meets 217 = .ok (.iaload, 1) := by decide +kernel
theorem dL_meets_218 : decode cL_meets 218 = .ok (.aload_n 3, 1) := by decide +kernel
theorem dL_meets_219 : decode cL_meets 219 = .ok (.bipush 12, 2) := by decide +kernel
theorem dL_meets_221 : decode cL_meets 221 = .ok (.iload 10, 2) := by decide +kernel
theorem dL_meets_223 : decode cL_meets 223 = .ok (.iadd, 1) := by decide +kernel
theorem dL_meets_224 : decode cL_meets 224 = .ok (.iaload, 1) := by decide +kernel
theorem dL_meets_225 : decode cL_meets 225 = .ok (.if_icmp .le 10, 3) := by decide +kernel
theorem dL_meets_228 : decode cL_meets 228 = .ok (.aload_n 3, 1) := by decide +kernel
theorem dL_meets_229 : decode cL_meets 229 = .ok (.iload 10, 2) := by decide +kernel
theorem dL_meets_231 : decode cL_meets 231 = .ok (.iaload, 1) := by decide +kernel
theorem dL_meets_232 : decode cL_meets 232 = .ok (.goto 10, 3) := by decide +kernel
theorem dL_meets_235 : decode cL_meets 235 = .ok (.aload_n 3, 1) := by decide +kernel
theorem dL_meets_236 : decode cL_meets 236 = .ok (.bipush 12, 2) := by decide +kernel
theorem dL_meets_238 : decode cL_meets 238 = .ok (.iload 10, 2) := by decide +kernel
theorem dL_meets_240 : decode cL_meets 240 = .ok (.iadd, 1) := by decide +kernel
theorem dL_meets_241 : decode cL_meets 241 = .ok (.iaload, 1) := by decide +kernel
theorem dL_meets_242 : decode cL_meets 242 = .ok (.istore 13, 2) := by decide +kernel
theorem dL_meets_244 : decode cL_meets 244 = .ok (.iload 8, 2) := by decide +kernel
theorem dL_meets_246 : decode cL_meets 246 = .ok (.iload 11, 2) := by decide +kernel
theorem dL_meets_248 : decode cL_meets 248 = .ok (.aload_n 3, 1) := by decide +kernel
theorem dL_meets_249 : decode cL_meets 249 = .ok (.iload 10, 2) := by decide +kernel
theorem dL_meets_251 : decode cL_meets 251 = .ok (.iaload, 1) := by decide +kernel
theorem dL_meets_252 : decode cL_meets 252 = .ok (.if_icmp .gt 15, 3) := by decide +kernel
theorem dL_meets_255 : decode cL_meets 255 = .ok (.iload 12, 2) := by decide +kernel
theorem dL_meets_257 : decode cL_meets 257 = .ok (.aload_n 3, 1) := by decide +kernel
theorem dL_meets_258 : decode cL_meets 258 = .ok (.bipush 12, 2) := by decide +kernel
theorem dL_meets_260 : decode cL_meets 260 = .ok (.iload 10, 2) := by decide +kernel
theorem dL_meets_262 : decode cL_meets 262 = .ok (.iadd, 1) := by decide +kernel
theorem dL_meets_263 : decode cL_meets 263 = .ok (.iaload, 1) := by decide +kernel
theorem dL_meets_264 : decode cL_meets 264 = .ok (.if_icmp .le 7, 3) := by decide +kernel
theorem dL_meets_267 : decode cL_meets 267 = .ok (.iconst 1, 1) := by decide +kernel
theorem dL_meets_268 : decode cL_meets 268 = .ok (.goto 4, 3) := by decide +kernel
theorem dL_meets_271 : decode cL_meets 271 = .ok (.iconst 0, 1) := by decide +kernel
theorem dL_meets_272 : decode cL_meets 272 = .ok (.iadd, 1) := by decide +kernel
theorem dL_meets_273 : decode cL_meets 273 = .ok (.istore 8, 2) := by decide +kernel
theorem dL_meets_275 : decode cL_meets 275 = .ok (.iload 11, 2) := by decide +kernel
theorem dL_meets_277 : decode cL_meets 277 = .ok (.aload_n 3, 1) := by decide +kernel
theorem dL_meets_278 : decode cL_meets 278 = .ok (.iload 10, 2) := by decide +kernel
theorem dL_meets_280 : decode cL_meets 280 = .ok (.iaload, 1) := by decide +kernel
theorem dL_meets_281 : decode cL_meets 281 = .ok (.if_icmp .lt 71, 3) := by decide +kernel
theorem dL_meets_284 : decode cL_meets 284 = .ok (.iload 12, 2) := by decide +kernel
theorem dL_meets_286 : decode cL_meets 286 = .ok (.aload_n 3, 1) := by decide +kernel
theorem dL_meets_287 : decode cL_meets 287 = .ok (.bipush 12, 2) := by decide +kernel
theorem dL_meets_289 : decode cL_meets 289 = .ok (.iload 10, 2) := by decide +kernel
theorem dL_meets_291 : decode cL_meets 291 = .ok (.iadd, 1) := by decide +kernel
theorem dL_meets_292 : decode cL_meets 292 = .ok (.iaload, 1) := by decide +kernel
theorem dL_meets_293 : decode cL_meets 293 = .ok (.if_icmp .lt 59, 3) := by decide +kernel
theorem dL_meets_296 : decode cL_meets 296 = .ok (.iload 11, 2) := by decide +kernel
theorem dL_meets_298 : decode cL_meets 298 = .ok (.iload 13, 2) := by decide +kernel
theorem dL_meets_300 : decode cL_meets 300 = .ok (.if_icmp .gt 52, 3) := by decide +kernel
theorem dL_meets_303 : decode cL_meets 303 = .ok (.iload 12, 2) := by decide +kernel
theorem dL_meets_305 : decode cL_meets 305 = .ok (.iload 13, 2) := by decide +kernel
theorem dL_meets_307 : decode cL_meets 307 = .ok (.if_icmp .gt 45, 3) := by decide +kernel
theorem dL_meets_310 : decode cL_meets 310 = .ok (.aload_n 0, 1) := by decide +kernel
theorem dL_meets_311 : decode cL_meets 311 = .ok (.iload_n 1, 1) := by decide +kernel
theorem dL_meets_312 : decode cL_meets 312 = .ok (.iload 10, 2) := by decide +kernel
theorem dL_meets_314 : decode cL_meets 314 = .ok (.iconst 0, 1) := by decide +kernel
theorem dL_meets_315 : decode cL_meets 315 = .ok (.invokevirtual 9, 3) := by decide +kernel
theorem dL_meets_318 : decode cL_meets 318 = .ok (.iconst 1, 1) := by decide +kernel
theorem dL_meets_319 : decode cL_meets 319 = .ok (.if_icmp .ne 29, 3) := by decide +kernel
theorem dL_meets_322 : decode cL_meets 322 = .ok (.aload_n 0, 1) := by decide +kernel
theorem dL_meets_323 : decode cL_meets 323 = .ok (.iload_n 2, 1) := by decide +kernel
theorem dL_meets_324 : decode cL_meets 324 = .ok (.iload 10, 2) := by decide +kernel
theorem dL_meets_326 : decode cL_meets 326 = .ok (.iconst 0, 1) := by decide +kernel
theorem dL_meets_327 : decode cL_meets 327 = .ok (.invokevirtual 9, 3) := by decide +kernel
theorem dL_meets_330 : decode cL_meets 330 = .ok (.iconst 1, 1) := by decide +kernel
theorem dL_meets_331 : decode cL_meets 331 = .ok (.if_icmp .ne 17, 3) := by decide +kernel
theorem dL_meets_334 : decode cL_meets 334 = .ok (.iload 11, 2) := by decide +kernel
theorem dL_meets_336 : decode cL_meets 336 = .ok (.iload 13, 2) := by decide +kernel
theorem dL_meets_338 : decode cL_meets 338 = .ok (.if_icmp .ne 14, 3) := by decide +kernel
theorem dL_meets_341 : decode cL_meets 341 = .ok (.iload 12, 2) := by decide +kernel
theorem dL_meets_343 : decode cL_meets 343 = .ok (.iload 13, 2) := by decide +kernel
theorem dL_meets_345 : decode cL_meets 345 = .ok (.if_icmp .ne 7, 3) := by decide +kernel
theorem dL_meets_348 : decode cL_meets 348 = .ok (.iconst 1, 1) := by decide +kernel
theorem dL_meets_349 : decode cL_meets 349 = .ok (.goto 4, 3) := by decide +kernel
theorem dL_meets_352 : decode cL_meets 352 = .ok (.iconst 0, 1) := by decide +kernel
theorem dL_meets_353 : decode cL_meets 353 = .ok (.istore 9, 2) := by decide +kernel
theorem dL_meets_355 : decode cL_meets 355 = .ok (.iinc 10 1, 3) := by decide +kernel
theorem dL_meets_358 : decode cL_meets 358 = .ok (.goto (-174), 3) := by decide +kernel
theorem dL_meets_361 : decode cL_meets 361 = .ok (.aload_n 0, 1) := by decide +kernel
theorem dL_meets_362 : decode cL_meets 362 = .ok (.iload_n 1, 1) := by decide +kernel
theorem dL_meets_363 : decode cL_meets 363 = .ok (.iload_n 2, 1) := by decide +kernel
theorem dL_meets_364 : decode cL_meets 364 = .ok (.invokevirtual 32, 3) := by decide +kernel
theorem dL_meets_367 : decode cL_meets 367 = .ok (.istore 10, 2) := by decide +kernel
theorem dL_meets_369 : decode cL_meets 369 = .ok (.iconst 0, 1) := by decide +kernel
theorem dL_meets_370 : decode cL_meets 370 = .ok (.istore 11, 2) := by decide +kernel
theorem dL_meets_372 : decode cL_meets 372 = .ok (.iload 11, 2) := by decide +kernel
theorem dL_meets_374 : decode cL_meets 374 = .ok (.bipush 12, 2) := by decide +kernel
theorem dL_meets_376 : decode cL_meets 376 = .ok (.if_icmp .ge 26, 3) := by decide +kernel
theorem dL_meets_379 : decode cL_meets 379 = .ok (.iload 8, 2) := by decide +kernel
theorem dL_meets_381 : decode cL_meets 381 = .ok (.iload 4, 2) := by decide +kernel
theorem dL_meets_383 : decode cL_meets 383 = .ok (.iload 10, 2) := by decide +kernel
theorem dL_meets_385 : decode cL_meets 385 = .ok (.iconst (-1), 1) := by decide +kernel
theorem dL_meets_386 : decode cL_meets 386 = .ok (.ixor, 1) := by decide +kernel
theorem dL_meets_387 : decode cL_meets 387 = .ok (.iand, 1) := by decide +kernel
theorem dL_meets_388 : decode cL_meets 388 = .ok (.iload 11, 2) := by decide +kernel
theorem dL_meets_390 : decode cL_meets 390 = .ok (.ishr, 1) := by decide +kernel
theorem dL_meets_391 : decode cL_meets 391 = .ok (.iconst 1, 1) := by decide +kernel
theorem dL_meets_392 : decode cL_meets 392 = .ok (.iand, 1) := by decide +kernel
theorem dL_meets_393 : decode cL_meets 393 = .ok (.isub, 1) := by decide +kernel
theorem dL_meets_394 : decode cL_meets 394 = .ok (.istore 8, 2) := by decide +kernel
theorem dL_meets_396 : decode cL_meets 396 = .ok (.iinc 11 1, 3) := by decide +kernel
theorem dL_meets_399 : decode cL_meets 399 = .ok (.goto (-27), 3) := by decide +kernel
theorem dL_meets_402 : decode cL_meets 402 = .ok (.iload 9, 2) := by decide +kernel
theorem dL_meets_404 : decode cL_meets 404 = .ok (.ifCond .eq 47, 3) := by decide +kernel
theorem dL_meets_407 : decode cL_meets 407 = .ok (.iload 8, 2) := by decide +kernel
theorem dL_meets_409 : decode cL_meets 409 = .ok (.ifCond .ne 42, 3) := by decide +kernel
theorem dL_meets_412 : decode cL_meets 412 = .ok (.iload 10, 2) := by decide +kernel
theorem dL_meets_414 : decode cL_meets 414 = .ok (.iload 4, 2) := by decide +kernel
theorem dL_meets_416 : decode cL_meets 416 = .ok (.iconst (-1), 1) := by decide +kernel
theorem dL_meets_417 : decode cL_meets 417 = .ok (.ixor, 1) := by decide +kernel
theorem dL_meets_418 : decode cL_meets 418 = .ok (.iand, 1) := by decide +kernel
theorem dL_meets_419 : decode cL_meets 419 = .ok (.ifCond .ne 32, 3) := by decide +kernel
theorem dL_meets_422 : decode cL_meets 422 = .ok (.aload_n 0, 1) := by decide +kernel
theorem dL_meets_423 : decode cL_meets 423 = .ok (.bipush 8, 2) := by decide +kernel
theorem dL_meets_425 : decode cL_meets 425 = .ok (.invokevirtual 15, 3) := by decide +kernel
theorem dL_meets_428 : decode cL_meets 428 = .ok (.iload 6, 2) := by decide +kernel
theorem dL_meets_430 : decode cL_meets 430 = .ok (.if_icmp .lt 21, 3) := by decide +kernel
theorem dL_meets_433 : decode cL_meets 433 = .ok (.aload_n 0, 1) := by decide +kernel
theorem dL_meets_434 : decode cL_meets 434 = .ok (.bipush 8, 2) := by decide +kernel
theorem dL_meets_436 : decode cL_meets 436 = .ok (.invokevirtual 15, 3) := by decide +kernel
theorem dL_meets_439 : decode cL_meets 439 = .ok (.iload 6, 2) := by decide +kernel
theorem dL_meets_441 : decode cL_meets 441 = .ok (.iload 7, 2) := by decide +kernel
theorem dL_meets_443 : decode cL_meets 443 = .ok (.iadd, 1) := by decide +kernel
theorem dL_meets_444 : decode cL_meets 444 = .ok (.if_icmp .gt 7, 3) := by decide +kernel
theorem dL_meets_447 : decode cL_meets 447 = .ok (.iconst 1, 1) := by decide +kernel
theorem dL_meets_448 : decode cL_meets 448 = .ok (.goto 4, 3) := by decide +kernel
theorem dL_meets_451 : decode cL_meets 451 = .ok (.iconst 0, 1) := by decide +kernel
theorem dL_meets_452 : decode cL_meets 452 = .ok (.ireturn, 1) := by decide +kernel
theorem dL_acts_0 : decode cL_acts 0 = .ok (.iload_n 1, 1) := by decide +kernel
theorem dL_acts_1 : decode cL_acts 1 = .ok (.bipush 16, 2) := by decide +kernel
theorem dL_acts_3 : decode cL_acts 3 = .ok (.idiv, 1) := by decide +kernel
theorem dL_acts_4 : decode cL_acts 4 = .ok (.istore_n 2, 1) := by decide +kernel
theorem dL_acts_5 : decode cL_acts 5 = .ok (.iload_n 2, 1) := by decide +kernel
theorem dL_acts_6 : decode cL_acts 6 = .ok (.iconst 5, 1) := by decide +kernel
theorem dL_acts_7 : decode cL_acts 7 = .ok (.irem, 1) := by decide +kernel
theorem dL_acts_8 : decode cL_acts 8 = .ok (.istore_n 3, 1) := by decide +kernel
theorem dL_acts_9 : decode cL_acts 9 = .ok (.iload_n 3, 1) := by decide +kernel
theorem dL_acts_10 : decode cL_acts 10 = .ok (.iconst 1, 1) := by decide +kernel
theorem dL_acts_11 : decode cL_acts 11 = .ok (.iadd, 1) := by decide +kernel
theorem dL_acts_12 : decode cL_acts 12 = .ok (.iload_n 2, 1) := by decide +kernel
theorem dL_acts_13 : decode cL_acts 13 = .ok (.bipush 8, 2) := by decide +kernel
theorem dL_acts_15 : decode cL_acts 15 = .ok (.idiv, 1) := by decide +kernel
theorem dL_acts_16 : decode cL_acts 16 = .ok (.iconst 4, 1) := by decide +kernel
theorem dL_acts_17 : decode cL_acts 17 = .ok (.irem, 1) := by decide +kernel
theorem dL_acts_18 : decode cL_acts 18 = .ok (.iadd, 1) := by decide +kernel
theorem dL_acts_19 : decode cL_acts 19 = .ok (.iconst 5, 1) := by decide +kernel
theorem dL_acts_20 : decode cL_acts 20 = .ok (.irem, 1) := by decide +kernel
theorem dL_acts_21 : decode cL_acts 21 = .ok (.istore 4, 2) := by decide +kernel
theorem dL_acts_23 : decode cL_acts 23 = .ok (.iload_n 2, 1) := by decide +kernel
theorem dL_acts_24 : decode cL_acts 24 = .ok (.bipush 32, 2) := by decide +kernel
theorem dL_acts_26 : decode cL_acts 26 = .ok (.idiv, 1) := by decide +kernel
theorem dL_acts_27 : decode cL_acts 27 = .ok (.iconst 3, 1) := by decide +kernel
theorem dL_acts_28 : decode cL_acts 28 = .ok (.irem, 1) := by decide +kernel
theorem dL_acts_29 : decode cL_acts 29 = .ok (.istore 5, 2) := by decide +kernel
theorem dL_acts_31 : decode cL_acts 31 = .ok (.aload_n 0, 1) := by decide +kernel
theorem dL_acts_32 : decode cL_acts 32 = .ok (.iload_n 3, 1) := by decide +kernel
theorem dL_acts_33 : decode cL_acts 33 = .ok (.iconst 1, 1) := by decide +kernel
theorem dL_acts_34 : decode cL_acts 34 = .ok (.invokevirtual 19, 3) := by decide +kernel
theorem dL_acts_37 : decode cL_acts 37 = .ok (.istore 6, 2) := by decide +kernel
theorem dL_acts_39 : decode cL_acts 39 = .ok (.iload_n 1, 1) := by decide +kernel
theorem dL_acts_40 : decode cL_acts 40 = .ok (.bipush 16, 2) := by decide +kernel
theorem dL_acts_42 : decode cL_acts 42 = .ok (.irem, 1) := by decide +kernel
theorem dL_acts_43 : decode cL_acts 43 = .ok (.tableswitch 495 0 12 #[65, 65, 65, 166, 166, 166, 280, 325, 325, 359, 359, 449, 469], 65) := by decide +kernel
theorem dL_acts_108 : decode cL_acts 108 = .ok (.aload_n 0, 1) := by decide +kernel
theorem dL_acts_109 : decode cL_acts 109 = .ok (.iload_n 3, 1) := by decide +kernel
theorem dL_acts_110 : decode cL_acts 110 = .ok (.iload 5, 2) := by decide +kernel
theorem dL_acts_112 : decode cL_acts 112 = .ok (.iload_n 2, 1) := by decide +kernel
theorem dL_acts_113 : decode cL_acts 113 = .ok (.sipush 128, 3) := by decide +kernel
theorem dL_acts_116 : decode cL_acts 116 = .ok (.idiv, 1) := by decide +kernel
theorem dL_acts_117 : decode cL_acts 117 = .ok (.bipush 100, 2) := by decide +kernel
theorem dL_acts_119 : decode cL_acts 119 = .ok (.irem, 1) := by decide +kernel
theorem dL_acts_120 : decode cL_acts 120 = .ok (.iload_n 2, 1) := by decide +kernel
theorem dL_acts_121 : decode cL_acts 121 = .ok (.sipush 16384, 3) := by decide +kernel
theorem dL_acts_124 : decode cL_acts 124 = .ok (.idiv, 1) := by decide +kernel
theorem dL_acts_125 : decode cL_acts 125 = .ok (.iconst 5, 1) := by decide +kernel
theorem dL_acts_126 : decode cL_acts 126 = .ok (.irem, 1) := by decide +kernel
theorem dL_acts_127 : decode cL_acts 127 = .ok (.iconst 2, 1) := by decide +kernel
theorem dL_acts_128 : decode cL_acts 128 = .ok (.if_icmp .le 7, 3) := by decide +kernel
theorem dL_acts_131 : decode cL_acts 131 = .ok (.iconst 0, 1) := by decide +kernel
theorem dL_acts_132 : decode cL_acts 132 = .ok (.goto 10, 3) := by decide +kernel
theorem dL_acts_135 : decode cL_acts 135 = .ok (.iload_n 2, 1) := by decide +kernel
theorem dL_acts_136 : decode cL_acts 136 = .ok (.sipush 16384, 3) := by decide +kernel
theorem dL_acts_139 : decode cL_acts 139 = .ok (.idiv, 1) := by decide +kernel
theorem dL_acts_140 : decode cL_acts 140 = .ok (.iconst 5, 1) := by decide +kernel
theorem dL_acts_141 : decode cL_acts 141 = .ok (.irem, 1) := by decide +kernel
theorem dL_acts_142 : decode cL_acts 142 = .ok (.invokevirtual 39, 3) := by decide +kernel
theorem dL_acts_145 : decode cL_acts 145 = .ok (.istore 7, 2) := by decide +kernel
theorem dL_acts_147 : decode cL_acts 147 = .ok (.iload 7, 2) := by decide +kernel
theorem dL_acts_149 : decode cL_acts 149 = .ok (.ldc 38, 2) := by decide +kernel
theorem dL_acts_151 : decode cL_acts 151 = .ok (.if_icmp .ne 20, 3) := by decide +kernel
theorem dL_acts_154 : decode cL_acts 154 = .ok (.aload_n 0, 1) := by decide +kernel
theorem dL_acts_155 : decode cL_acts 155 = .ok (.iload_n 3, 1) := by decide +kernel
theorem dL_acts_156 : decode cL_acts 156 = .ok (.iconst 0, 1) := by decide +kernel
theorem dL_acts_157 : decode cL_acts 157 = .ok (.invokevirtual 19, 3) := by decide +kernel
theorem dL_acts_160 : decode cL_acts 160 = .ok (.ifCond .le 7, 3) := by decide +kernel
theorem dL_acts_163 : decode cL_acts 163 = .ok (.iconst 1, 1) := by decide +kernel
theorem dL_acts_164 : decode cL_acts 164 = .ok (.goto 44, 3) := by decide +kernel
theorem dL_acts_167 : decode cL_acts 167 = .ok (.iconst 0, 1) := by decide +kernel
theorem dL_acts_168 : decode cL_acts 168 = .ok (.goto 40, 3) := by decide +kernel
theorem dL_acts_171 : decode cL_acts 171 = .ok (.iload 7, 2) := by decide +kernel
theorem dL_acts_173 : decode cL_acts 173 = .ok (.iload 6, 2) := by decide +kernel
theorem dL_acts_175 : decode cL_acts 175 = .ok (.iconst 1, 1) := by decide +kernel
theorem dL_acts_176 : decode cL_acts 176 = .ok (.iadd, 1) := by decide +kernel
theorem dL_acts_177 : decode cL_acts 177 = .ok (.if_icmp .ne 30, 3) := by decide +kernel
theorem dL_acts_180 : decode cL_acts 180 = .ok (.aload_n 0, 1) := by decide +kernel
theorem dL_acts_181 : decode cL_acts 181 = .ok (.iload_n 3, 1) := by decide +kernel
theorem dL_acts_182 : decode cL_acts 182 = .ok (.iload 5, 2) := by decide +kernel
theorem dL_acts_184 : decode cL_acts 184 = .ok (.iconst 0, 1) := by decide +kernel
theorem dL_acts_185 : decode cL_acts 185 = .ok (.invokevirtual 9, 3) := by decide +kernel
theorem dL_acts_188 : decode cL_acts 188 = .ok (.ifCond .ne 19, 3) := by decide +kernel
theorem dL_acts_191 : decode cL_acts 191 = .ok (.aload_n 0, 1) := by decide +kernel
theorem dL_acts_192 : decode cL_acts 192 = .ok (.iload_n 3, 1) := by decide +kernel
theorem dL_acts_193 : decode cL_acts 193 = .ok (.iload 5, 2) := by decide +kernel
theorem dL_acts_195 : decode cL_acts 195 = .ok (.iconst 2, 1) := by decide +kernel
theorem dL_acts_196 : decode cL_acts 196 = .ok (.invokevirtual 9, 3) := by decide +kernel
theorem dL_acts_199 : decode cL_acts 199 = .ok (.iload_n 3, 1) := by decide +kernel
theorem dL_acts_200 : decode cL_acts 200 = .ok (.if_icmp .ne 7, 3) := by decide +kernel
theorem dL_acts_203 : decode cL_acts 203 = .ok (.iconst 1, 1) := by decide +kernel
theorem dL_acts_204 : decode cL_acts 204 = .ok (.goto 4, 3) := by decide +kernel
theorem dL_acts_207 : decode cL_acts 207 = .ok (.iconst 0, 1) := by decide +kernel
theorem dL_acts_208 : decode cL_acts 208 = .ok (.ireturn, 1) := by decide +kernel
theorem dL_acts_209 : decode cL_acts 209 = .ok (.aload_n 0, 1) := by decide +kernel
theorem dL_acts_210 : decode cL_acts 210 = .ok (.bipush 9, 2) := by decide +kernel
theorem dL_acts_212 : decode cL_acts 212 = .ok (.invokevirtual 15, 3) := by decide +kernel
theorem dL_acts_215 : decode cL_acts 215 = .ok (.istore 8, 2) := by decide +kernel
theorem dL_acts_217 : decode cL_acts 217 = .ok (.aload_n 0, 1) := by decide +kernel
theorem dL_acts_218 : decode cL_acts 218 = .ok (.iload_n 3, 1) := by decide +kernel
theorem dL_acts_219 : decode cL_acts 219 = .ok (.iload 5, 2) := by decide +kernel
theorem dL_acts_221 : decode cL_acts 221 = .ok (.invokevirtual 43, 3) := by decide +kernel
theorem dL_acts_224 : decode cL_acts 224 = .ok (.istore 9, 2) := by decide +kernel
theorem dL_acts_226 : decode cL_acts 226 = .ok (.iload 9, 2) := by decide +kernel
theorem dL_acts_228 : decode cL_acts 228 = .ok (.ldc 38, 2) := by decide +kernel
theorem dL_acts_230 : decode cL_acts 230 = .ok (.if_icmp .ne 22, 3) := by decide +kernel
theorem dL_acts_233 : decode cL_acts 233 = .ok (.aload_n 0, 1) := by decide +kernel
theorem dL_acts_234 : decode cL_acts 234 = .ok (.bipush 9, 2) := by decide +kernel
theorem dL_acts_236 : decode cL_acts 236 = .ok (.invokevirtual 15, 3) := by decide +kernel
theorem dL_acts_239 : decode cL_acts 239 = .ok (.iload 8, 2) := by decide +kernel
theorem dL_acts_241 : decode cL_acts 241 = .ok (.if_icmp .ne 7, 3) := by decide +kernel
theorem dL_acts_244 : decode cL_acts 244 = .ok (.iconst 1, 1) := by decide +kernel
theorem dL_acts_245 : decode cL_acts 245 = .ok (.goto 77, 3) := by decide +kernel
theorem dL_acts_248 : decode cL_acts 248 = .ok (.iconst 0, 1) := by decide +kernel
theorem dL_acts_249 : decode cL_acts 249 = .ok (.goto 73, 3) := by decide +kernel
theorem dL_acts_252 : decode cL_acts 252 = .ok (.iload 9, 2) := by decide +kernel
theorem dL_acts_254 : decode cL_acts 254 = .ok (.iload 6, 2) := by decide +kernel
theorem dL_acts_256 : decode cL_acts 256 = .ok (.iconst 1, 1) := by decide +kernel
theorem dL_acts_257 : decode cL_acts 257 = .ok (.iadd, 1) := by decide +kernel
theorem dL_acts_258 : decode cL_acts 258 = .ok (.if_icmp .ne 63, 3) := by decide +kernel
theorem dL_acts_261 : decode cL_acts 261 = .ok (.aload_n 0, 1) := by decide +kernel
theorem dL_acts_262 : decode cL_acts 262 = .ok (.bipush 9, 2) := by decide +kernel
theorem dL_acts_264 : decode cL_acts 264 = .ok (.invokevirtual 15, 3) := by decide +kernel
theorem dL_acts_267 : decode cL_acts 267 = .ok (.iload 8, 2) := by decide +kernel
theorem dL_acts_269 : decode cL_acts 269 = .ok (.iconst 1, 1) := by decide +kernel
theorem dL_acts_270 : decode cL_acts 270 = .ok (.iadd, 1) := by decide +kernel
theorem dL_acts_271 : decode cL_acts 271 = .ok (.if_icmp .ne 50, 3) := by decide +kernel
theorem dL_acts_274 : decode cL_acts 274 = .ok (.aload_n 0, 1) := by decide +kernel
theorem dL_acts_275 : decode cL_acts 275 = .ok (.iload_n 3, 1) := by decide +kernel
theorem dL_acts_276 : decode cL_acts 276 = .ok (.iload 5, 2) := by decide +kernel
theorem dL_acts_278 : decode cL_acts 278 = .ok (.iconst 0, 1) := by decide +kernel
theorem dL_acts_279 : decode cL_acts 279 = .ok (.invokevirtual 9, 3) := by decide +kernel
theorem dL_acts_282 : decode cL_acts 282 = .ok (.iconst 1, 1) := by decide +kernel
theorem dL_acts_283 : decode cL_acts 283 = .ok (.if_icmp .ne 38, 3) := by decide +kernel
theorem dL_acts_286 : decode cL_acts 286 = .ok (.aload_n 0, 1) := by decide +kernel
theorem dL_acts_287 : decode cL_acts 287 = .ok (.iload_n 3, 1) := by decide +kernel
theorem dL_acts_288 : decode cL_acts 288 = .ok (.iload 5, 2) := by decide +kernel
theorem dL_acts_290 : decode cL_acts 290 = .ok (.bipush 6, 2) := by decide +kernel
theorem dL_acts_292 : decode cL_acts 292 = .ok (.invokevirtual 9, 3) := by decide +kernel
theorem dL_acts_295 : decode cL_acts 295 = .ok (.iconst 1, 1) := by decide +kernel
theorem dL_acts_296 : decode cL_acts 296 = .ok (.iload_n 3, 1) := by decide +kernel
theorem dL_acts_297 : decode cL_acts 297 = .ok (.ishl, 1) := by decide +kernel
theorem dL_acts_298 : decode cL_acts 298 = .ok (.if_icmp .ne 23, 3) := by decide +kernel
theorem dL_acts_301 : decode cL_acts 301 = .ok (.aload_n 0, 1) := by decide +kernel
theorem dL_acts_302 : decode cL_acts 302 = .ok (.iload_n 3, 1) := by decide +kernel
theorem dL_acts_303 : decode cL_acts 303 = .ok (.iload 5, 2) := by decide +kernel
theorem dL_acts_305 : decode cL_acts 305 = .ok (.iconst 5, 1) := by decide +kernel
theorem dL_acts_306 : decode cL_acts 306 = .ok (.invokevirtual 9, 3) := by decide +kernel
theorem dL_acts_309 : decode cL_acts 309 = .ok (.aload_n 0, 1) := by decide +kernel
theorem dL_acts_310 : decode cL_acts 310 = .ok (.iconst 3, 1) := by decide +kernel
theorem dL_acts_311 : decode cL_acts 311 = .ok (.invokevirtual 15, 3) := by decide +kernel
theorem dL_acts_314 : decode cL_acts 314 = .ok (.if_icmp .ne 7, 3) := by decide +kernel
theorem dL_acts_317 : decode cL_acts 317 = .ok (.iconst 1, 1) := by decide +kernel
theorem dL_acts_318 : decode cL_acts 318 = .ok (.goto 4, 3) := by decide +kernel
theorem dL_acts_321 : decode cL_acts 321 = .ok (.iconst 0, 1) := by decide +kernel
theorem dL_acts_322 : decode cL_acts 322 = .ok (.ireturn, 1) := by decide +kernel
theorem dL_acts_323 : decode cL_acts 323 = .ok (.aload_n 0, 1) := by decide +kernel
theorem dL_acts_324 : decode cL_acts 324 = .ok (.iconst 1, 1) := by decide +kernel
theorem dL_acts_325 : decode cL_acts 325 = .ok (.invokevirtual 15, 3) := by decide +kernel
theorem dL_acts_328 : decode cL_acts 328 = .ok (.istore 10, 2) := by decide +kernel
theorem dL_acts_330 : decode cL_acts 330 = .ok (.aload_n 0, 1) := by decide +kernel
theorem dL_acts_331 : decode cL_acts 331 = .ok (.iload_n 3, 1) := by decide +kernel
theorem dL_acts_332 : decode cL_acts 332 = .ok (.invokevirtual 46, 3) := by decide +kernel
theorem dL_acts_335 : decode cL_acts 335 = .ok (.istore 11, 2) := by decide +kernel
theorem dL_acts_337 : decode cL_acts 337 = .ok (.iload 11, 2) := by decide +kernel
theorem dL_acts_339 : decode cL_acts 339 = .ok (.ldc 38, 2) := by decide +kernel
theorem dL_acts_341 : decode cL_acts 341 = .ok (.if_icmp .eq 21, 3) := by decide +kernel
theorem dL_acts_344 : decode cL_acts 344 = .ok (.iload 11, 2) := by decide +kernel
theorem dL_acts_346 : decode cL_acts 346 = .ok (.iload 10, 2) := by decide +kernel
theorem dL_acts_348 : decode cL_acts 348 = .ok (.iconst 1, 1) := by decide +kernel
theorem dL_acts_349 : decode cL_acts 349 = .ok (.isub, 1) := by decide +kernel
theorem dL_acts_350 : decode cL_acts 350 = .ok (.if_icmp .ne 16, 3) := by decide +kernel
theorem dL_acts_353 : decode cL_acts 353 = .ok (.aload_n 0, 1) := by decide +kernel
theorem dL_acts_354 : decode cL_acts 354 = .ok (.iload_n 3, 1) := by decide +kernel
theorem dL_acts_355 : decode cL_acts 355 = .ok (.iconst 5, 1) := by decide +kernel
theorem dL_acts_356 : decode cL_acts 356 = .ok (.invokevirtual 19, 3) := by decide +kernel
theorem dL_acts_359 : decode cL_acts 359 = .ok (.ifCond .ne 7, 3) := by decide +kernel
theorem dL_acts_362 : decode cL_acts 362 = .ok (.iconst 1, 1) := by decide +kernel
theorem dL_acts_363 : decode cL_acts 363 = .ok (.goto 4, 3) := by decide +kernel
theorem dL_acts_366 : decode cL_acts 366 = .ok (.iconst 0, 1) := by decide +kernel
theorem dL_acts_367 : decode cL_acts 367 = .ok (.ireturn, 1) := by decide +kernel
theorem dL_acts_368 : decode cL_acts 368 = .ok (.aload_n 0, 1) := by decide +kernel
theorem dL_acts_369 : decode cL_acts 369 = .ok (.iload_n 3, 1) := by decide +kernel
theorem dL_acts_370 : decode cL_acts 370 = .ok (.iconst 5, 1) := by decide +kernel
theorem dL_acts_371 : decode cL_acts 371 = .ok (.invokevirtual 19, 3) := by decide +kernel
theorem dL_acts_374 : decode cL_acts 374 = .ok (.istore 12, 2) := by decide +kernel
theorem dL_acts_376 : decode cL_acts 376 = .ok (.aload_n 0, 1) := by decide +kernel
theorem dL_acts_377 : decode cL_acts 377 = .ok (.iload_n 3, 1) := by decide +kernel
theorem dL_acts_378 : decode cL_acts 378 = .ok (.invokevirtual 49, 3) := by decide +kernel
theorem dL_acts_381 : decode cL_acts 381 = .ok (.iload 12, 2) := by decide +kernel
theorem dL_acts_383 : decode cL_acts 383 = .ok (.ifCond .ge 8, 3) := by decide +kernel
theorem dL_acts_386 : decode cL_acts 386 = .ok (.ldc 38, 2) := by decide +kernel
theorem dL_acts_388 : decode cL_acts 388 = .ok (.goto 5, 3) := by decide +kernel
theorem dL_acts_391 : decode cL_acts 391 = .ok (.iload 12, 2) := by decide +kernel
theorem dL_acts_393 : decode cL_acts 393 = .ok (.if_icmp .ne 7, 3) := by decide +kernel
theorem dL_acts_396 : decode cL_acts 396 = .ok (.iconst 1, 1) := by decide +kernel
theorem dL_acts_397 : decode cL_acts 397 = .ok (.goto 4, 3) := by decide +kernel
theorem dL_acts_400 : decode cL_acts 400 = .ok (.iconst 0, 1) := by decide +kernel
theorem dL_acts_401 : decode cL_acts 401 = .ok (.ireturn, 1) := by decide +kernel
theorem dL_acts_402 : decode cL_acts 402 = .ok (.aload_n 0, 1) := by decide +kernel
theorem dL_acts_403 : decode cL_acts 403 = .ok (.bipush 6, 2) := by decide +kernel
theorem dL_acts_405 : decode cL_acts 405 = .ok (.invokevirtual 15, 3) := by decide +kernel
theorem dL_acts_408 : decode cL_acts 408 = .ok (.istore 13, 2) := by decide +kernel
theorem dL_acts_410 : decode cL_acts 410 = .ok (.aload_n 0, 1) := by decide +kernel
theorem dL_acts_411 : decode cL_acts 411 = .ok (.iconst 5, 1) := by decide +kernel
theorem dL_acts_412 : decode cL_acts 412 = .ok (.invokevirtual 15, 3) := by decide +kernel
theorem dL_acts_415 : decode cL_acts 415 = .ok (.istore 14, 2) := by decide +kernel
theorem dL_acts_417 : decode cL_acts 417 = .ok (.aload_n 0, 1) := by decide +kernel
theorem dL_acts_418 : decode cL_acts 418 = .ok (.iconst 3, 1) := by decide +kernel
theorem dL_acts_419 : decode cL_acts 419 = .ok (.invokevirtual 15, 3) := by decide +kernel
theorem dL_acts_422 : decode cL_acts 422 = .ok (.istore 15, 2) := by decide +kernel
theorem dL_acts_424 : decode cL_acts 424 = .ok (.aload_n 0, 1) := by decide +kernel
theorem dL_acts_425 : decode cL_acts 425 = .ok (.iconst 1, 1) := by decide +kernel
theorem dL_acts_426 : decode cL_acts 426 = .ok (.iload_n 2, 1) := by decide +kernel
theorem dL_acts_427 : decode cL_acts 427 = .ok (.bipush 8, 2) := by decide +kernel
theorem dL_acts_429 : decode cL_acts 429 = .ok (.idiv, 1) := by decide +kernel
theorem dL_acts_430 : decode cL_acts 430 = .ok (.iconst 4, 1) := by decide +kernel
theorem dL_acts_431 : decode cL_acts 431 = .ok (.irem, 1) := by decide +kernel
theorem dL_acts_432 : decode cL_acts 432 = .ok (.iadd, 1) := by decide +kernel
theorem dL_acts_433 : decode cL_acts 433 = .ok (.invokevirtual 52, 3) := by decide +kernel
theorem dL_acts_436 : decode cL_acts 436 = .ok (.istore 16, 2) := by decide +kernel
theorem dL_acts_438 : decode cL_acts 438 = .ok (.iload 16, 2) := by decide +kernel
theorem dL_acts_440 : decode cL_acts 440 = .ok (.ifCond .lt 50, 3) := by decide +kernel
theorem dL_acts_443 : decode cL_acts 443 = .ok (.aload_n 0, 1) := by decide +kernel
theorem dL_acts_444 : decode cL_acts 444 = .ok (.bipush 6, 2) := by decide +kernel
theorem dL_acts_446 : decode cL_acts 446 = .ok (.invokevirtual 15, 3) := by decide +kernel
theorem dL_acts_449 : decode cL_acts 449 = .ok (.iload 13, 2) := by decide +kernel
theorem dL_acts_451 : decode cL_acts 451 = .ok (.iload 16, 2) := by decide +kernel
theorem dL_acts_453 : decode cL_acts 453 = .ok (.isub, 1) := by decide +kernel
theorem dL_acts_454 : decode cL_acts 454 = .ok (.if_icmp .ne 36, 3) := by decide +kernel
theorem dL_acts_457 : decode cL_acts 457 = .ok (.aload_n 0, 1) := by decide +kernel
theorem dL_acts_458 : decode cL_acts 458 = .ok (.iconst 5, 1) := by decide +kernel
theorem dL_acts_459 : decode cL_acts 459 = .ok (.invokevirtual 15, 3) := by decide +kernel
theorem dL_acts_462 : decode cL_acts 462 = .ok (.iload 14, 2) := by decide +kernel
theorem dL_acts_464 : decode cL_acts 464 = .ok (.if_icmp .ne 26, 3) := by decide +kernel
theorem dL_acts_467 : decode cL_acts 467 = .ok (.aload_n 0, 1) := by decide +kernel
theorem dL_acts_468 : decode cL_acts 468 = .ok (.iconst 3, 1) := by decide +kernel
theorem dL_acts_469 : decode cL_acts 469 = .ok (.invokevirtual 15, 3) := by decide +kernel
theorem dL_acts_472 : decode cL_acts 472 = .ok (.iload 15, 2) := by decide +kernel
theorem dL_acts_474 : decode cL_acts 474 = .ok (.iconst 1, 1) := by decide +kernel
theorem dL_acts_475 : decode cL_acts 475 = .ok (.iadd, 1) := by decide +kernel
theorem dL_acts_476 : decode cL_acts 476 = .ok (.iload_n 2, 1) := by decide +kernel
theorem dL_acts_477 : decode cL_acts 477 = .ok (.bipush 8, 2) := by decide +kernel
theorem dL_acts_479 : decode cL_acts 479 = .ok (.idiv, 1) := by decide +kernel
theorem dL_acts_480 : decode cL_acts 480 = .ok (.iconst 4, 1) := by decide +kernel
theorem dL_acts_481 : decode cL_acts 481 = .ok (.irem, 1) := by decide +kernel
theorem dL_acts_482 : decode cL_acts 482 = .ok (.iadd, 1) := by decide +kernel
theorem dL_acts_483 : decode cL_acts 483 = .ok (.if_icmp .ne 7, 3) := by decide +kernel
theorem dL_acts_486 : decode cL_acts 486 = .ok (.iconst 1, 1) := by decide +kernel
theorem dL_acts_487 : decode cL_acts 487 = .ok (.goto 4, 3) := by decide +kernel
theorem dL_acts_490 : decode cL_acts 490 = .ok (.iconst 0, 1) := by decide +kernel
theorem dL_acts_491 : decode cL_acts 491 = .ok (.ireturn, 1) := by decide +kernel
theorem dL_acts_492 : decode cL_acts 492 = .ok (.aload_n 0, 1) := by decide +kernel
theorem dL_acts_493 : decode cL_acts 493 = .ok (.iconst 1, 1) := by decide +kernel
theorem dL_acts_494 : decode cL_acts 494 = .ok (.iload_n 2, 1) := by decide +kernel
theorem dL_acts_495 : decode cL_acts 495 = .ok (.bipush 30, 2) := by decide +kernel
theorem dL_acts_497 : decode cL_acts 497 = .ok (.irem, 1) := by decide +kernel
theorem dL_acts_498 : decode cL_acts 498 = .ok (.iadd, 1) := by decide +kernel
theorem dL_acts_499 : decode cL_acts 499 = .ok (.invokevirtual 55, 3) := by decide +kernel
theorem dL_acts_502 : decode cL_acts 502 = .ok (.iconst 1, 1) := by decide +kernel
theorem dL_acts_503 : decode cL_acts 503 = .ok (.if_icmp .lt 7, 3) := by decide +kernel
theorem dL_acts_506 : decode cL_acts 506 = .ok (.iconst 1, 1) := by decide +kernel
theorem dL_acts_507 : decode cL_acts 507 = .ok (.goto 4, 3) := by decide +kernel
theorem dL_acts_510 : decode cL_acts 510 = .ok (.iconst 0, 1) := by decide +kernel
theorem dL_acts_511 : decode cL_acts 511 = .ok (.ireturn, 1) := by decide +kernel
theorem dL_acts_512 : decode cL_acts 512 = .ok (.iload_n 2, 1) := by decide +kernel
theorem dL_acts_513 : decode cL_acts 513 = .ok (.bipush 32, 2) := by decide +kernel
theorem dL_acts_515 : decode cL_acts 515 = .ok (.idiv, 1) := by decide +kernel
theorem dL_acts_516 : decode cL_acts 516 = .ok (.bipush 8, 2) := by decide +kernel
theorem dL_acts_518 : decode cL_acts 518 = .ok (.irem, 1) := by decide +kernel
theorem dL_acts_519 : decode cL_acts 519 = .ok (.ifCond .gt 13, 3) := by decide +kernel
theorem dL_acts_522 : decode cL_acts 522 = .ok (.aload_n 0, 1) := by decide +kernel
theorem dL_acts_523 : decode cL_acts 523 = .ok (.iload_n 3, 1) := by decide +kernel
theorem dL_acts_524 : decode cL_acts 524 = .ok (.invokevirtual 58, 3) := by decide +kernel
theorem dL_acts_527 : decode cL_acts 527 = .ok (.ldc 61, 2) := by decide +kernel
theorem dL_acts_529 : decode cL_acts 529 = .ok (.if_icmp .eq 7, 3) := by decide +kernel
theorem dL_acts_532 : decode cL_acts 532 = .ok (.iconst 1, 1) := by decide +kernel
theorem dL_acts_533 : decode cL_acts 533 = .ok (.goto 4, 3) := by decide +kernel
theorem dL_acts_536 : decode cL_acts 536 = .ok (.iconst 0, 1) := by decide +kernel
theorem dL_acts_537 : decode cL_acts 537 = .ok (.ireturn, 1) := by decide +kernel
theorem dL_acts_538 : decode cL_acts 538 = .ok (.aload_n 0, 1) := by decide +kernel
theorem dL_acts_539 : decode cL_acts 539 = .ok (.iload_n 3, 1) := by decide +kernel
theorem dL_acts_540 : decode cL_acts 540 = .ok (.iload 4, 2) := by decide +kernel
theorem dL_acts_542 : decode cL_acts 542 = .ok (.invokestatic 62, 3) := by decide +kernel
theorem dL_acts_545 : decode cL_acts 545 = .ok (.ireturn, 1) := by decide +kernel
theorem dL_law_0 : decode cL_law 0 = .ok (.new 10, 3) := by decide +kernel
theorem dL_law_3 : decode cL_law 3 = .ok (.dup, 1) := by decide +kernel
theorem dL_law_4 : decode cL_law 4 = .ok (.invokespecial 66, 3) := by decide +kernel
theorem dL_law_7 : decode cL_law 7 = .ok (.astore_n 1, 1) := by decide +kernel
theorem dL_law_8 : decode cL_law 8 = .ok (.aload_n 1, 1) := by decide +kernel
theorem dL_law_9 : decode cL_law 9 = .ok (.invokestatic 67, 3) := by decide +kernel
theorem dL_law_12 : decode cL_law 12 = .ok (.istore_n 2, 1) := by decide +kernel
theorem dL_law_13 : decode cL_law 13 = .ok (.iconst 0, 1) := by decide +kernel
theorem dL_law_14 : decode cL_law 14 = .ok (.istore_n 3, 1) := by decide +kernel
theorem dL_law_15 : decode cL_law 15 = .ok (.iload_n 3, 1) := by decide +kernel
theorem dL_law_16 : decode cL_law 16 = .ok (.iconst 5, 1) := by decide +kernel
theorem dL_law_17 : decode cL_law 17 = .ok (.if_icmp .ge 34, 3) := by decide +kernel
theorem dL_law_20 : decode cL_law 20 = .ok (.iload_n 2, 1) := by decide +kernel
theorem dL_law_21 : decode cL_law 21 = .ok (.ifCond .eq 30, 3) := by decide +kernel
theorem dL_law_24 : decode cL_law 24 = .ok (.aload_n 1, 1) := by decide +kernel
theorem dL_law_25 : decode cL_law 25 = .ok (.invokevirtual 71, 3) := by decide +kernel
theorem dL_law_28 : decode cL_law 28 = .ok (.iload_n 3, 1) := by decide +kernel
theorem dL_law_29 : decode cL_law 29 = .ok (.if_icmp .ne 14, 3) := by decide +kernel
theorem dL_law_32 : decode cL_law 32 = .ok (.aload_n 1, 1) := by decide +kernel
theorem dL_law_33 : decode cL_law 33 = .ok (.invokestatic 67, 3) := by decide +kernel
theorem dL_law_36 : decode cL_law 36 = .ok (.ifCond .eq 7, 3) := by decide +kernel
theorem dL_law_39 : decode cL_law 39 = .ok (.iconst 1, 1) := by decide +kernel
theorem dL_law_40 : decode cL_law 40 = .ok (.goto 4, 3) := by decide +kernel
theorem dL_law_43 : decode cL_law 43 = .ok (.iconst 0, 1) := by decide +kernel
theorem dL_law_44 : decode cL_law 44 = .ok (.istore_n 2, 1) := by decide +kernel
theorem dL_law_45 : decode cL_law 45 = .ok (.iinc 3 1, 3) := by decide +kernel
theorem dL_law_48 : decode cL_law 48 = .ok (.goto (-33), 3) := by decide +kernel
theorem dL_law_51 : decode cL_law 51 = .ok (.iconst 0, 1) := by decide +kernel
theorem dL_law_52 : decode cL_law 52 = .ok (.istore_n 3, 1) := by decide +kernel
theorem dL_law_53 : decode cL_law 53 = .ok (.iload_n 3, 1) := by decide +kernel
theorem dL_law_54 : decode cL_law 54 = .ok (.bipush 34, 2) := by decide +kernel
theorem dL_law_56 : decode cL_law 56 = .ok (.if_icmp .ge 38, 3) := by decide +kernel
theorem dL_law_59 : decode cL_law 59 = .ok (.iload_n 2, 1) := by decide +kernel
theorem dL_law_60 : decode cL_law 60 = .ok (.ifCond .eq 34, 3) := by decide +kernel
theorem dL_law_63 : decode cL_law 63 = .ok (.aload_n 1, 1) := by decide +kernel
theorem dL_law_64 : decode cL_law 64 = .ok (.aload_n 0, 1) := by decide +kernel
theorem dL_law_65 : decode cL_law 65 = .ok (.iload_n 3, 1) := by decide +kernel
theorem dL_law_66 : decode cL_law 66 = .ok (.invokestatic 75, 3) := by decide +kernel
theorem dL_law_69 : decode cL_law 69 = .ok (.invokestatic 79, 3) := by decide +kernel
theorem dL_law_72 : decode cL_law 72 = .ok (.ifCond .eq 14, 3) := by decide +kernel
theorem dL_law_75 : decode cL_law 75 = .ok (.aload_n 1, 1) := by decide +kernel
theorem dL_law_76 : decode cL_law 76 = .ok (.invokestatic 67, 3) := by decide +kernel
theorem dL_law_79 : decode cL_law 79 = .ok (.ifCond .eq 7, 3) := by decide +kernel
theorem dL_law_82 : decode cL_law 82 = .ok (.iconst 1, 1) := by decide +kernel
theorem dL_law_83 : decode cL_law 83 = .ok (.goto 4, 3) := by decide +kernel
theorem dL_law_86 : decode cL_law 86 = .ok (.iconst 0, 1) := by decide +kernel
theorem dL_law_87 : decode cL_law 87 = .ok (.istore_n 2, 1) := by decide +kernel
theorem dL_law_88 : decode cL_law 88 = .ok (.iinc 3 1, 3) := by decide +kernel
theorem dL_law_91 : decode cL_law 91 = .ok (.goto (-38), 3) := by decide +kernel
theorem dL_law_94 : decode cL_law 94 = .ok (.aload_n 1, 1) := by decide +kernel
theorem dL_law_95 : decode cL_law 95 = .ok (.iconst 3, 1) := by decide +kernel
theorem dL_law_96 : decode cL_law 96 = .ok (.invokevirtual 15, 3) := by decide +kernel
theorem dL_law_99 : decode cL_law 99 = .ok (.istore_n 3, 1) := by decide +kernel
theorem dL_law_100 : decode cL_law 100 = .ok (.aload_n 1, 1) := by decide +kernel
theorem dL_law_101 : decode cL_law 101 = .ok (.bipush 6, 2) := by decide +kernel
theorem dL_law_103 : decode cL_law 103 = .ok (.invokevirtual 15, 3) := by decide +kernel
theorem dL_law_106 : decode cL_law 106 = .ok (.istore 4, 2) := by decide +kernel
theorem dL_law_108 : decode cL_law 108 = .ok (.iload_n 2, 1) := by decide +kernel
theorem dL_law_109 : decode cL_law 109 = .ok (.ifCond .eq 32, 3) := by decide +kernel
theorem dL_law_112 : decode cL_law 112 = .ok (.aload_n 1, 1) := by decide +kernel
theorem dL_law_113 : decode cL_law 113 = .ok (.bipush 60, 2) := by decide +kernel
theorem dL_law_115 : decode cL_law 115 = .ok (.invokevirtual 52, 3) := by decide +kernel
theorem dL_law_118 : decode cL_law 118 = .ok (.ifCond .lt 23, 3) := by decide +kernel
theorem dL_law_121 : decode cL_law 121 = .ok (.aload_n 1, 1) := by decide +kernel
theorem dL_law_122 : decode cL_law 122 = .ok (.bipush 6, 2) := by decide +kernel
theorem dL_law_124 : decode cL_law 124 = .ok (.invokevirtual 15, 3) := by decide +kernel
theorem dL_law_127 : decode cL_law 127 = .ok (.ifCond .ne 14, 3) := by decide +kernel
theorem dL_law_130 : decode cL_law 130 = .ok (.aload_n 1, 1) := by decide +kernel
theorem dL_law_131 : decode cL_law 131 = .ok (.invokestatic 67, 3) := by decide +kernel
theorem dL_law_134 : decode cL_law 134 = .ok (.ifCond .eq 7, 3) := by decide +kernel
theorem dL_law_137 : decode cL_law 137 = .ok (.iconst 1, 1) := by decide +kernel
theorem dL_law_138 : decode cL_law 138 = .ok (.goto 4, 3) := by decide +kernel
theorem dL_law_141 : decode cL_law 141 = .ok (.iconst 0, 1) := by decide +kernel
theorem dL_law_142 : decode cL_law 142 = .ok (.istore_n 2, 1) := by decide +kernel
theorem dL_law_143 : decode cL_law 143 = .ok (.iload_n 2, 1) := by decide +kernel
theorem dL_law_144 : decode cL_law 144 = .ok (.ifCond .eq 41, 3) := by decide +kernel
theorem dL_law_147 : decode cL_law 147 = .ok (.aload_n 1, 1) := by decide +kernel
theorem dL_law_148 : decode cL_law 148 = .ok (.invokevirtual 83, 3) := by decide +kernel
theorem dL_law_151 : decode cL_law 151 = .ok (.ifCond .lt 34, 3) := by decide +kernel
theorem dL_law_154 : decode cL_law 154 = .ok (.aload_n 1, 1) := by decide +kernel
theorem dL_law_155 : decode cL_law 155 = .ok (.iconst 3, 1) := by decide +kernel
theorem dL_law_156 : decode cL_law 156 = .ok (.invokevirtual 15, 3) := by decide +kernel
theorem dL_law_159 : decode cL_law 159 = .ok (.iload_n 3, 1) := by decide +kernel
theorem dL_law_160 : decode cL_law 160 = .ok (.if_icmp .ne 25, 3) := by decide +kernel
theorem dL_law_163 : decode cL_law 163 = .ok (.aload_n 1, 1) := by decide +kernel
theorem dL_law_164 : decode cL_law 164 = .ok (.bipush 6, 2) := by decide +kernel
theorem dL_law_166 : decode cL_law 166 = .ok (.invokevirtual 15, 3) := by decide +kernel
theorem dL_law_169 : decode cL_law 169 = .ok (.iload 4, 2) := by decide +kernel
theorem dL_law_171 : decode cL_law 171 = .ok (.if_icmp .ne 14, 3) := by decide +kernel
theorem dL_law_174 : decode cL_law 174 = .ok (.aload_n 1, 1) := by decide +kernel
theorem dL_law_175 : decode cL_law 175 = .ok (.invokestatic 67, 3) := by decide +kernel
theorem dL_law_178 : decode cL_law 178 = .ok (.ifCond .eq 7, 3) := by decide +kernel
theorem dL_law_181 : decode cL_law 181 = .ok (.iconst 1, 1) := by decide +kernel
theorem dL_law_182 : decode cL_law 182 = .ok (.goto 4, 3) := by decide +kernel
theorem dL_law_185 : decode cL_law 185 = .ok (.iconst 0, 1) := by decide +kernel
theorem dL_law_186 : decode cL_law 186 = .ok (.ireturn, 1) := by decide +kernel
