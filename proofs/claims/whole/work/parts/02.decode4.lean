theorem dX6_way_202 : decode cX6_way 202 = .ok (.iload 5, 2) := by decide +kernel
theorem dX6_way_204 : decode cX6_way 204 = .ok (.iaload, 1) := by decide +kernel
theorem dX6_way_205 : decode cX6_way 205 = .ok (.ifCond .le 7, 3) := by decide +kernel
theorem dX6_way_208 : decode cX6_way 208 = .ok (.iconst 1, 1) := by decide +kernel
theorem dX6_way_209 : decode cX6_way 209 = .ok (.goto 4, 3) := by decide +kernel
theorem dX6_way_212 : decode cX6_way 212 = .ok (.iconst 0, 1) := by decide +kernel
theorem dX6_way_213 : decode cX6_way 213 = .ok (.bastore, 1) := by decide +kernel
theorem dX6_way_214 : decode cX6_way 214 = .ok (.iinc 5 1, 3) := by decide +kernel
theorem dX6_way_217 : decode cX6_way 217 = .ok (.goto (-120), 3) := by decide +kernel
theorem dX6_way_220 : decode cX6_way 220 = .ok (.aload_n 0, 1) := by decide +kernel
theorem dX6_way_221 : decode cX6_way 221 = .ok (.invokevirtual 134, 3) := by decide +kernel
theorem dX6_way_224 : decode cX6_way 224 = .ok (.iconst 0, 1) := by decide +kernel
theorem dX6_way_225 : decode cX6_way 225 = .ok (.istore 5, 2) := by decide +kernel
theorem dX6_way_227 : decode cX6_way 227 = .ok (.iload 5, 2) := by decide +kernel
theorem dX6_way_229 : decode cX6_way 229 = .ok (.aload_n 0, 1) := by decide +kernel
theorem dX6_way_230 : decode cX6_way 230 = .ok (.invokevirtual 53, 3) := by decide +kernel
theorem dX6_way_233 : decode cX6_way 233 = .ok (.if_icmp .ge 41, 3) := by decide +kernel
theorem dX6_way_236 : decode cX6_way 236 = .ok (.aload_n 0, 1) := by decide +kernel
theorem dX6_way_237 : decode cX6_way 237 = .ok (.getfield 40, 3) := by decide +kernel
theorem dX6_way_240 : decode cX6_way 240 = .ok (.iload 5, 2) := by decide +kernel
theorem dX6_way_242 : decode cX6_way 242 = .ok (.aload_n 0, 1) := by decide +kernel
theorem dX6_way_243 : decode cX6_way 243 = .ok (.getfield 44, 3) := by decide +kernel
theorem dX6_way_246 : decode cX6_way 246 = .ok (.iload 5, 2) := by decide +kernel
theorem dX6_way_248 : decode cX6_way 248 = .ok (.baload, 1) := by decide +kernel
theorem dX6_way_249 : decode cX6_way 249 = .ok (.ifCond .eq 17, 3) := by decide +kernel
theorem dX6_way_252 : decode cX6_way 252 = .ok (.aload_n 0, 1) := by decide +kernel
theorem dX6_way_253 : decode cX6_way 253 = .ok (.getfield 22, 3) := by decide +kernel
theorem dX6_way_256 : decode cX6_way 256 = .ok (.iload 5, 2) := by decide +kernel
theorem dX6_way_258 : decode cX6_way 258 = .ok (.iaload, 1) := by decide +kernel
theorem dX6_way_259 : decode cX6_way 259 = .ok (.ifCond .le 7, 3) := by decide +kernel
theorem dX6_way_262 : decode cX6_way 262 = .ok (.iconst 1, 1) := by decide +kernel
theorem dX6_way_263 : decode cX6_way 263 = .ok (.goto 4, 3) := by decide +kernel
theorem dX6_way_266 : decode cX6_way 266 = .ok (.iconst 0, 1) := by decide +kernel
theorem dX6_way_267 : decode cX6_way 267 = .ok (.bastore, 1) := by decide +kernel
theorem dX6_way_268 : decode cX6_way 268 = .ok (.iinc 5 1, 3) := by decide +kernel
theorem dX6_way_271 : decode cX6_way 271 = .ok (.goto (-44), 3) := by decide +kernel
theorem dX6_way_274 : decode cX6_way 274 = .ok (.aload_n 0, 1) := by decide +kernel
theorem dX6_way_275 : decode cX6_way 275 = .ok (.getfield 40, 3) := by decide +kernel
theorem dX6_way_278 : decode cX6_way 278 = .ok (.iload_n 2, 1) := by decide +kernel
theorem dX6_way_279 : decode cX6_way 279 = .ok (.baload, 1) := by decide +kernel
theorem dX6_way_280 : decode cX6_way 280 = .ok (.ifCond .eq 8, 3) := by decide +kernel
theorem dX6_way_283 : decode cX6_way 283 = .ok (.iload 4, 2) := by decide +kernel
theorem dX6_way_285 : decode cX6_way 285 = .ok (.goto 5, 3) := by decide +kernel
theorem dX6_way_288 : decode cX6_way 288 = .ok (.bipush (-4), 2) := by decide +kernel
theorem dX6_way_290 : decode cX6_way 290 = .ok (.istore_n 3, 1) := by decide +kernel
theorem dX6_way_291 : decode cX6_way 291 = .ok (.iinc 4 1, 3) := by decide +kernel
theorem dX6_way_294 : decode cX6_way 294 = .ok (.goto (-213), 3) := by decide +kernel
theorem dX6_way_297 : decode cX6_way 297 = .ok (.aload_n 0, 1) := by decide +kernel
theorem dX6_way_298 : decode cX6_way 298 = .ok (.invokevirtual 140, 3) := by decide +kernel
theorem dX6_way_301 : decode cX6_way 301 = .ok (.iload_n 3, 1) := by decide +kernel
theorem dX6_way_302 : decode cX6_way 302 = .ok (.ireturn, 1) := by decide +kernel
theorem dX6_areApart_0 : decode cX6_areApart 0 = .ok (.iload_n 3, 1) := by decide +kernel
theorem dX6_areApart_1 : decode cX6_areApart 1 = .ok (.ifCond .le 8, 3) := by decide +kernel
theorem dX6_areApart_4 : decode cX6_areApart 4 = .ok (.aload_n 0, 1) := by decide +kernel
theorem dX6_areApart_5 : decode cX6_areApart 5 = .ok (.iload_n 3, 1) := by decide +kernel
theorem dX6_areApart_6 : decode cX6_areApart 6 = .ok (.invokevirtual 127, 3) := by decide +kernel
theorem dX6_areApart_9 : decode cX6_areApart 9 = .ok (.aload_n 0, 1) := by decide +kernel
theorem dX6_areApart_10 : decode cX6_areApart 10 = .ok (.iload_n 1, 1) := by decide +kernel
theorem dX6_areApart_11 : decode cX6_areApart 11 = .ok (.iload_n 2, 1) := by decide +kernel
theorem dX6_areApart_12 : decode cX6_areApart 12 = .ok (.invokevirtual 146, 3) := by decide +kernel
theorem dX6_areApart_15 : decode cX6_areApart 15 = .ok (.ifCond .ne 7, 3) := by decide +kernel
theorem dX6_areApart_18 : decode cX6_areApart 18 = .ok (.iconst 1, 1) := by decide +kernel
theorem dX6_areApart_19 : decode cX6_areApart 19 = .ok (.goto 4, 3) := by decide +kernel
theorem dX6_areApart_22 : decode cX6_areApart 22 = .ok (.iconst 0, 1) := by decide +kernel
theorem dX6_areApart_23 : decode cX6_areApart 23 = .ok (.istore 4, 2) := by decide +kernel
theorem dX6_areApart_25 : decode cX6_areApart 25 = .ok (.aload_n 0, 1) := by decide +kernel
theorem dX6_areApart_26 : decode cX6_areApart 26 = .ok (.invokevirtual 140, 3) := by decide +kernel
theorem dX6_areApart_29 : decode cX6_areApart 29 = .ok (.iload 4, 2) := by decide +kernel
theorem dX6_areApart_31 : decode cX6_areApart 31 = .ok (.ireturn, 1) := by decide +kernel
theorem dX6_kerb_0 : decode cX6_kerb 0 = .ok (.aload_n 0, 1) := by decide +kernel
theorem dX6_kerb_1 : decode cX6_kerb 1 = .ok (.iload_n 1, 1) := by decide +kernel
theorem dX6_kerb_2 : decode cX6_kerb 2 = .ok (.invokevirtual 98, 3) := by decide +kernel
theorem dX6_kerb_5 : decode cX6_kerb 5 = .ok (.ifCond .eq 26, 3) := by decide +kernel
theorem dX6_kerb_8 : decode cX6_kerb 8 = .ok (.aload_n 0, 1) := by decide +kernel
theorem dX6_kerb_9 : decode cX6_kerb 9 = .ok (.iload_n 2, 1) := by decide +kernel
theorem dX6_kerb_10 : decode cX6_kerb 10 = .ok (.invokevirtual 98, 3) := by decide +kernel
theorem dX6_kerb_13 : decode cX6_kerb 13 = .ok (.ifCond .eq 18, 3) := by decide +kernel
theorem dX6_kerb_16 : decode cX6_kerb 16 = .ok (.iload_n 1, 1) := by decide +kernel
theorem dX6_kerb_17 : decode cX6_kerb 17 = .ok (.iload_n 2, 1) := by decide +kernel
theorem dX6_kerb_18 : decode cX6_kerb 18 = .ok (.if_icmp .eq 13, 3) := by decide +kernel
theorem dX6_kerb_21 : decode cX6_kerb 21 = .ok (.iload_n 3, 1) := by decide +kernel
theorem dX6_kerb_22 : decode cX6_kerb 22 = .ok (.iconst 0, 1) := by decide +kernel
theorem dX6_kerb_23 : decode cX6_kerb 23 = .ok (.bipush 9, 2) := by decide +kernel
theorem dX6_kerb_25 : decode cX6_kerb 25 = .ok (.invokestatic 57, 3) := by decide +kernel
theorem dX6_kerb_28 : decode cX6_kerb 28 = .ok (.ifCond .ne 5, 3) := by decide +kernel
theorem dX6_kerb_31 : decode cX6_kerb 31 = .ok (.iconst (-1), 1) := by decide +kernel
theorem dX6_kerb_32 : decode cX6_kerb 32 = .ok (.ireturn, 1) := by decide +kernel
theorem dX6_kerb_33 : decode cX6_kerb 33 = .ok (.aload_n 0, 1) := by decide +kernel
theorem dX6_kerb_34 : decode cX6_kerb 34 = .ok (.invokevirtual 137, 3) := by decide +kernel
theorem dX6_kerb_37 : decode cX6_kerb 37 = .ok (.aload_n 0, 1) := by decide +kernel
theorem dX6_kerb_38 : decode cX6_kerb 38 = .ok (.iload_n 1, 1) := by decide +kernel
theorem dX6_kerb_39 : decode cX6_kerb 39 = .ok (.iload_n 2, 1) := by decide +kernel
theorem dX6_kerb_40 : decode cX6_kerb 40 = .ok (.iload_n 3, 1) := by decide +kernel
theorem dX6_kerb_41 : decode cX6_kerb 41 = .ok (.invokevirtual 150, 3) := by decide +kernel
theorem dX6_kerb_44 : decode cX6_kerb 44 = .ok (.ifCond .eq 6, 3) := by decide +kernel
theorem dX6_kerb_47 : decode cX6_kerb 47 = .ok (.bipush 100, 2) := by decide +kernel
theorem dX6_kerb_49 : decode cX6_kerb 49 = .ok (.ireturn, 1) := by decide +kernel
theorem dX6_kerb_50 : decode cX6_kerb 50 = .ok (.iconst 0, 1) := by decide +kernel
theorem dX6_kerb_51 : decode cX6_kerb 51 = .ok (.istore 4, 2) := by decide +kernel
theorem dX6_kerb_53 : decode cX6_kerb 53 = .ok (.iload 4, 2) := by decide +kernel
theorem dX6_kerb_55 : decode cX6_kerb 55 = .ok (.aload_n 0, 1) := by decide +kernel
theorem dX6_kerb_56 : decode cX6_kerb 56 = .ok (.invokevirtual 53, 3) := by decide +kernel
theorem dX6_kerb_59 : decode cX6_kerb 59 = .ok (.if_icmp .ge 93, 3) := by decide +kernel
theorem dX6_kerb_62 : decode cX6_kerb 62 = .ok (.iload 4, 2) := by decide +kernel
theorem dX6_kerb_64 : decode cX6_kerb 64 = .ok (.iload_n 1, 1) := by decide +kernel
theorem dX6_kerb_65 : decode cX6_kerb 65 = .ok (.if_icmp .eq 81, 3) := by decide +kernel
theorem dX6_kerb_68 : decode cX6_kerb 68 = .ok (.iload 4, 2) := by decide +kernel
theorem dX6_kerb_70 : decode cX6_kerb 70 = .ok (.iload_n 2, 1) := by decide +kernel
theorem dX6_kerb_71 : decode cX6_kerb 71 = .ok (.if_icmp .eq 75, 3) := by decide +kernel
theorem dX6_kerb_74 : decode cX6_kerb 74 = .ok (.aload_n 0, 1) := by decide +kernel
theorem dX6_kerb_75 : decode cX6_kerb 75 = .ok (.getfield 13, 3) := by decide +kernel
theorem dX6_kerb_78 : decode cX6_kerb 78 = .ok (.iconst 3, 1) := by decide +kernel
theorem dX6_kerb_79 : decode cX6_kerb 79 = .ok (.iload 4, 2) := by decide +kernel
theorem dX6_kerb_81 : decode cX6_kerb 81 = .ok (.iadd, 1) := by decide +kernel
theorem dX6_kerb_82 : decode cX6_kerb 82 = .ok (.iaload, 1) := by decide +kernel
theorem dX6_kerb_83 : decode cX6_kerb 83 = .ok (.iconst 3, 1) := by decide +kernel
theorem dX6_kerb_84 : decode cX6_kerb 84 = .ok (.if_icmp .eq 62, 3) := by decide +kernel
theorem dX6_kerb_87 : decode cX6_kerb 87 = .ok (.aload_n 0, 1) := by decide +kernel
theorem dX6_kerb_88 : decode cX6_kerb 88 = .ok (.getfield 22, 3) := by decide +kernel
theorem dX6_kerb_91 : decode cX6_kerb 91 = .ok (.iload 4, 2) := by decide +kernel
theorem dX6_kerb_93 : decode cX6_kerb 93 = .ok (.iaload, 1) := by decide +kernel
theorem dX6_kerb_94 : decode cX6_kerb 94 = .ok (.ifCond .ne 52, 3) := by decide +kernel
theorem dX6_kerb_97 : decode cX6_kerb 97 = .ok (.aload_n 0, 1) := by decide +kernel
theorem dX6_kerb_98 : decode cX6_kerb 98 = .ok (.getfield 13, 3) := by decide +kernel
theorem dX6_kerb_101 : decode cX6_kerb 101 = .ok (.iconst 3, 1) := by decide +kernel
theorem dX6_kerb_102 : decode cX6_kerb 102 = .ok (.iload 4, 2) := by decide +kernel
theorem dX6_kerb_104 : decode cX6_kerb 104 = .ok (.iadd, 1) := by decide +kernel
theorem dX6_kerb_105 : decode cX6_kerb 105 = .ok (.iaload, 1) := by decide +kernel
theorem dX6_kerb_106 : decode cX6_kerb 106 = .ok (.istore 5, 2) := by decide +kernel
theorem dX6_kerb_108 : decode cX6_kerb 108 = .ok (.aload_n 0, 1) := by decide +kernel
theorem dX6_kerb_109 : decode cX6_kerb 109 = .ok (.getfield 13, 3) := by decide +kernel
theorem dX6_kerb_112 : decode cX6_kerb 112 = .ok (.iconst 3, 1) := by decide +kernel
theorem dX6_kerb_113 : decode cX6_kerb 113 = .ok (.iload 4, 2) := by decide +kernel
theorem dX6_kerb_115 : decode cX6_kerb 115 = .ok (.iadd, 1) := by decide +kernel
theorem dX6_kerb_116 : decode cX6_kerb 116 = .ok (.iconst 3, 1) := by decide +kernel
theorem dX6_kerb_117 : decode cX6_kerb 117 = .ok (.iastore, 1) := by decide +kernel
theorem dX6_kerb_118 : decode cX6_kerb 118 = .ok (.aload_n 0, 1) := by decide +kernel
theorem dX6_kerb_119 : decode cX6_kerb 119 = .ok (.iload_n 1, 1) := by decide +kernel
theorem dX6_kerb_120 : decode cX6_kerb 120 = .ok (.iload_n 2, 1) := by decide +kernel
theorem dX6_kerb_121 : decode cX6_kerb 121 = .ok (.iload_n 3, 1) := by decide +kernel
theorem dX6_kerb_122 : decode cX6_kerb 122 = .ok (.invokevirtual 150, 3) := by decide +kernel
theorem dX6_kerb_125 : decode cX6_kerb 125 = .ok (.istore 6, 2) := by decide +kernel
theorem dX6_kerb_127 : decode cX6_kerb 127 = .ok (.aload_n 0, 1) := by decide +kernel
theorem dX6_kerb_128 : decode cX6_kerb 128 = .ok (.getfield 13, 3) := by decide +kernel
theorem dX6_kerb_131 : decode cX6_kerb 131 = .ok (.iconst 3, 1) := by decide +kernel
theorem dX6_kerb_132 : decode cX6_kerb 132 = .ok (.iload 4, 2) := by decide +kernel
theorem dX6_kerb_134 : decode cX6_kerb 134 = .ok (.iadd, 1) := by decide +kernel
theorem dX6_kerb_135 : decode cX6_kerb 135 = .ok (.iload 5, 2) := by decide +kernel
theorem dX6_kerb_137 : decode cX6_kerb 137 = .ok (.iastore, 1) := by decide +kernel
theorem dX6_kerb_138 : decode cX6_kerb 138 = .ok (.iload 6, 2) := by decide +kernel
theorem dX6_kerb_140 : decode cX6_kerb 140 = .ok (.ifCond .eq 6, 3) := by decide +kernel
theorem dX6_kerb_143 : decode cX6_kerb 143 = .ok (.iload 4, 2) := by decide +kernel
theorem dX6_kerb_145 : decode cX6_kerb 145 = .ok (.ireturn, 1) := by decide +kernel
theorem dX6_kerb_146 : decode cX6_kerb 146 = .ok (.iinc 4 1, 3) := by decide +kernel
theorem dX6_kerb_149 : decode cX6_kerb 149 = .ok (.goto (-96), 3) := by decide +kernel
theorem dX6_kerb_152 : decode cX6_kerb 152 = .ok (.bipush (-4), 2) := by decide +kernel
theorem dX6_kerb_154 : decode cX6_kerb 154 = .ok (.ireturn, 1) := by decide +kernel
theorem dX6_ring_0 : decode cX6_ring 0 = .ok (.aload_n 0, 1) := by decide +kernel
theorem dX6_ring_1 : decode cX6_ring 1 = .ok (.iload_n 1, 1) := by decide +kernel
theorem dX6_ring_2 : decode cX6_ring 2 = .ok (.invokevirtual 98, 3) := by decide +kernel
theorem dX6_ring_5 : decode cX6_ring 5 = .ok (.ifCond .eq 13, 3) := by decide +kernel
theorem dX6_ring_8 : decode cX6_ring 8 = .ok (.iload_n 2, 1) := by decide +kernel
theorem dX6_ring_9 : decode cX6_ring 9 = .ok (.iconst 0, 1) := by decide +kernel
theorem dX6_ring_10 : decode cX6_ring 10 = .ok (.bipush 60, 2) := by decide +kernel
theorem dX6_ring_12 : decode cX6_ring 12 = .ok (.invokestatic 57, 3) := by decide +kernel
theorem dX6_ring_15 : decode cX6_ring 15 = .ok (.ifCond .ne 5, 3) := by decide +kernel
theorem dX6_ring_18 : decode cX6_ring 18 = .ok (.iconst (-1), 1) := by decide +kernel
theorem dX6_ring_19 : decode cX6_ring 19 = .ok (.ireturn, 1) := by decide +kernel
theorem dX6_ring_20 : decode cX6_ring 20 = .ok (.aload_n 0, 1) := by decide +kernel
theorem dX6_ring_21 : decode cX6_ring 21 = .ok (.getfield 95, 3) := by decide +kernel
theorem dX6_ring_24 : decode cX6_ring 24 = .ok (.bipush 6, 2) := by decide +kernel
theorem dX6_ring_26 : decode cX6_ring 26 = .ok (.if_icmp .ne 6, 3) := by decide +kernel
theorem dX6_ring_29 : decode cX6_ring 29 = .ok (.bipush (-3), 2) := by decide +kernel
theorem dX6_ring_31 : decode cX6_ring 31 = .ok (.ireturn, 1) := by decide +kernel
theorem dX6_ring_32 : decode cX6_ring 32 = .ok (.aload_n 0, 1) := by decide +kernel
theorem dX6_ring_33 : decode cX6_ring 33 = .ok (.getfield 31, 3) := by decide +kernel
theorem dX6_ring_36 : decode cX6_ring 36 = .ok (.aload_n 0, 1) := by decide +kernel
theorem dX6_ring_37 : decode cX6_ring 37 = .ok (.getfield 95, 3) := by decide +kernel
theorem dX6_ring_40 : decode cX6_ring 40 = .ok (.bipush 100, 2) := by decide +kernel
theorem dX6_ring_42 : decode cX6_ring 42 = .ok (.iload_n 1, 1) := by decide +kernel
theorem dX6_ring_43 : decode cX6_ring 43 = .ok (.imul, 1) := by decide +kernel
theorem dX6_ring_44 : decode cX6_ring 44 = .ok (.iload_n 2, 1) := by decide +kernel
theorem dX6_ring_45 : decode cX6_ring 45 = .ok (.iadd, 1) := by decide +kernel
theorem dX6_ring_46 : decode cX6_ring 46 = .ok (.iastore, 1) := by decide +kernel
theorem dX6_ring_47 : decode cX6_ring 47 = .ok (.aload_n 0, 1) := by decide +kernel
theorem dX6_ring_48 : decode cX6_ring 48 = .ok (.dup, 1) := by decide +kernel
theorem dX6_ring_49 : decode cX6_ring 49 = .ok (.getfield 95, 3) := by decide +kernel
theorem dX6_ring_52 : decode cX6_ring 52 = .ok (.iconst 1, 1) := by decide +kernel
theorem dX6_ring_53 : decode cX6_ring 53 = .ok (.iadd, 1) := by decide +kernel
theorem dX6_ring_54 : decode cX6_ring 54 = .ok (.putfield 95, 3) := by decide +kernel
theorem dX6_ring_57 : decode cX6_ring 57 = .ok (.aload_n 0, 1) := by decide +kernel
theorem dX6_ring_58 : decode cX6_ring 58 = .ok (.getfield 95, 3) := by decide +kernel
theorem dX6_ring_61 : decode cX6_ring 61 = .ok (.ireturn, 1) := by decide +kernel
theorem dX6_forget_0 : decode cX6_forget 0 = .ok (.aload_n 0, 1) := by decide +kernel
theorem dX6_forget_1 : decode cX6_forget 1 = .ok (.getfield 95, 3) := by decide +kernel
theorem dX6_forget_4 : decode cX6_forget 4 = .ok (.istore_n 1, 1) := by decide +kernel
theorem dX6_forget_5 : decode cX6_forget 5 = .ok (.aload_n 0, 1) := by decide +kernel
theorem dX6_forget_6 : decode cX6_forget 6 = .ok (.iconst 0, 1) := by decide +kernel
theorem dX6_forget_7 : decode cX6_forget 7 = .ok (.putfield 95, 3) := by decide +kernel
theorem dX6_forget_10 : decode cX6_forget 10 = .ok (.iload_n 1, 1) := by decide +kernel
theorem dX6_forget_11 : decode cX6_forget 11 = .ok (.ireturn, 1) := by decide +kernel
theorem dX6_rains_0 : decode cX6_rains 0 = .ok (.aload_n 0, 1) := by decide +kernel
theorem dX6_rains_1 : decode cX6_rains 1 = .ok (.invokevirtual 137, 3) := by decide +kernel
theorem dX6_rains_4 : decode cX6_rains 4 = .ok (.iconst 0, 1) := by decide +kernel
theorem dX6_rains_5 : decode cX6_rains 5 = .ok (.istore_n 1, 1) := by decide +kernel
theorem dX6_rains_6 : decode cX6_rains 6 = .ok (.iconst 0, 1) := by decide +kernel
theorem dX6_rains_7 : decode cX6_rains 7 = .ok (.istore_n 2, 1) := by decide +kernel
theorem dX6_rains_8 : decode cX6_rains 8 = .ok (.iload_n 2, 1) := by decide +kernel
theorem dX6_rains_9 : decode cX6_rains 9 = .ok (.bipush 31, 2) := by decide +kernel
theorem dX6_rains_11 : decode cX6_rains 11 = .ok (.if_icmp .ge 94, 3) := by decide +kernel
theorem dX6_rains_14 : decode cX6_rains 14 = .ok (.iload_n 2, 1) := by decide +kernel
theorem dX6_rains_15 : decode cX6_rains 15 = .ok (.ifCond .le 8, 3) := by decide +kernel
theorem dX6_rains_18 : decode cX6_rains 18 = .ok (.aload_n 0, 1) := by decide +kernel
theorem dX6_rains_19 : decode cX6_rains 19 = .ok (.iload_n 2, 1) := by decide +kernel
theorem dX6_rains_20 : decode cX6_rains 20 = .ok (.invokevirtual 127, 3) := by decide +kernel
theorem dX6_rains_23 : decode cX6_rains 23 = .ok (.iconst 1, 1) := by decide +kernel
theorem dX6_rains_24 : decode cX6_rains 24 = .ok (.istore_n 3, 1) := by decide +kernel
theorem dX6_rains_25 : decode cX6_rains 25 = .ok (.iconst 0, 1) := by decide +kernel
theorem dX6_rains_26 : decode cX6_rains 26 = .ok (.istore 4, 2) := by decide +kernel
theorem dX6_rains_28 : decode cX6_rains 28 = .ok (.iload 4, 2) := by decide +kernel
theorem dX6_rains_30 : decode cX6_rains 30 = .ok (.aload_n 0, 1) := by decide +kernel
theorem dX6_rains_31 : decode cX6_rains 31 = .ok (.getfield 95, 3) := by decide +kernel
theorem dX6_rains_34 : decode cX6_rains 34 = .ok (.if_icmp .ge 47, 3) := by decide +kernel
theorem dX6_rains_37 : decode cX6_rains 37 = .ok (.iload_n 3, 1) := by decide +kernel
theorem dX6_rains_38 : decode cX6_rains 38 = .ok (.ifCond .eq 35, 3) := by decide +kernel
theorem dX6_rains_41 : decode cX6_rains 41 = .ok (.aload_n 0, 1) := by decide +kernel
theorem dX6_rains_42 : decode cX6_rains 42 = .ok (.getfield 22, 3) := by decide +kernel
theorem dX6_rains_45 : decode cX6_rains 45 = .ok (.aload_n 0, 1) := by decide +kernel
theorem dX6_rains_46 : decode cX6_rains 46 = .ok (.getfield 31, 3) := by decide +kernel
theorem dX6_rains_49 : decode cX6_rains 49 = .ok (.iload 4, 2) := by decide +kernel
theorem dX6_rains_51 : decode cX6_rains 51 = .ok (.iaload, 1) := by decide +kernel
theorem dX6_rains_52 : decode cX6_rains 52 = .ok (.bipush 100, 2) := by decide +kernel
theorem dX6_rains_54 : decode cX6_rains 54 = .ok (.idiv, 1) := by decide +kernel
theorem dX6_rains_55 : decode cX6_rains 55 = .ok (.iaload, 1) := by decide +kernel
theorem dX6_rains_56 : decode cX6_rains 56 = .ok (.aload_n 0, 1) := by decide +kernel
theorem dX6_rains_57 : decode cX6_rains 57 = .ok (.getfield 31, 3) := by decide +kernel
theorem dX6_rains_60 : decode cX6_rains 60 = .ok (.iload 4, 2) := by decide +kernel
theorem dX6_rains_62 : decode cX6_rains 62 = .ok (.iaload, 1) := by decide +kernel
theorem dX6_rains_63 : decode cX6_rains 63 = .ok (.bipush 100, 2) := by decide +kernel
theorem dX6_rains_65 : decode cX6_rains 65 = .ok (.irem, 1) := by decide +kernel
theorem dX6_rains_66 : decode cX6_rains 66 = .ok (.if_icmp .ne 7, 3) := by decide +kernel
theorem dX6_rains_69 : decode cX6_rains 69 = .ok (.iconst 1, 1) := by decide +kernel
theorem dX6_rains_70 : decode cX6_rains 70 = .ok (.goto 4, 3) := by decide +kernel
theorem dX6_rains_73 : decode cX6_rains 73 = .ok (.iconst 0, 1) := by decide +kernel
theorem dX6_rains_74 : decode cX6_rains 74 = .ok (.istore_n 3, 1) := by decide +kernel
theorem dX6_rains_75 : decode cX6_rains 75 = .ok (.iinc 4 1, 3) := by decide +kernel
theorem dX6_rains_78 : decode cX6_rains 78 = .ok (.goto (-50), 3) := by decide +kernel
theorem dX6_rains_81 : decode cX6_rains 81 = .ok (.iload_n 1, 1) := by decide +kernel
theorem dX6_rains_82 : decode cX6_rains 82 = .ok (.iload_n 3, 1) := by decide +kernel
theorem dX6_rains_83 : decode cX6_rains 83 = .ok (.ifCond .eq 9, 3) := by decide +kernel
theorem dX6_rains_86 : decode cX6_rains 86 = .ok (.iconst 1, 1) := by decide +kernel
theorem dX6_rains_87 : decode cX6_rains 87 = .ok (.iload_n 2, 1) := by decide +kernel
theorem dX6_rains_88 : decode cX6_rains 88 = .ok (.ishl, 1) := by decide +kernel
theorem dX6_rains_89 : decode cX6_rains 89 = .ok (.goto 4, 3) := by decide +kernel
theorem dX6_rains_92 : decode cX6_rains 92 = .ok (.iconst 0, 1) := by decide +kernel
theorem dX6_rains_93 : decode cX6_rains 93 = .ok (.ior, 1) := by decide +kernel
theorem dX6_rains_94 : decode cX6_rains 94 = .ok (.istore_n 1, 1) := by decide +kernel
theorem dX6_rains_95 : decode cX6_rains 95 = .ok (.aload_n 0, 1) := by decide +kernel
theorem dX6_rains_96 : decode cX6_rains 96 = .ok (.invokevirtual 140, 3) := by decide +kernel
theorem dX6_rains_99 : decode cX6_rains 99 = .ok (.iinc 2 1, 3) := by decide +kernel
theorem dX6_rains_102 : decode cX6_rains 102 = .ok (.goto (-94), 3) := by decide +kernel
theorem dX6_rains_105 : decode cX6_rains 105 = .ok (.iload_n 1, 1) := by decide +kernel
theorem dX6_rains_106 : decode cX6_rains 106 = .ok (.ireturn, 1) := by decide +kernel
theorem dX6_common_0 : decode cX6_common 0 = .ok (.iload_n 0, 1) := by decide +kernel
theorem dX6_common_1 : decode cX6_common 1 = .ok (.istore_n 2, 1) := by decide +kernel
theorem dX6_common_2 : decode cX6_common 2 = .ok (.iload_n 1, 1) := by decide +kernel
theorem dX6_common_3 : decode cX6_common 3 = .ok (.istore_n 3, 1) := by decide +kernel
theorem dX6_common_4 : decode cX6_common 4 = .ok (.iload_n 3, 1) := by decide +kernel
theorem dX6_common_5 : decode cX6_common 5 = .ok (.ifCond .le 16, 3) := by decide +kernel
theorem dX6_common_8 : decode cX6_common 8 = .ok (.iload_n 2, 1) := by decide +kernel
theorem dX6_common_9 : decode cX6_common 9 = .ok (.iload_n 3, 1) := by decide +kernel
theorem dX6_common_10 : decode cX6_common 10 = .ok (.irem, 1) := by decide +kernel
theorem dX6_common_11 : decode cX6_common 11 = .ok (.istore 4, 2) := by decide +kernel
theorem dX6_common_13 : decode cX6_common 13 = .ok (.iload_n 3, 1) := by decide +kernel
theorem dX6_common_14 : decode cX6_common 14 = .ok (.istore_n 2, 1) := by decide +kernel
theorem dX6_common_15 : decode cX6_common 15 = .ok (.iload 4, 2) := by decide +kernel
theorem dX6_common_17 : decode cX6_common 17 = .ok (.istore_n 3, 1) := by decide +kernel
theorem dX6_common_18 : decode cX6_common 18 = .ok (.goto (-14), 3) := by decide +kernel
theorem dX6_common_21 : decode cX6_common 21 = .ok (.iload_n 2, 1) := by decide +kernel
theorem dX6_common_22 : decode cX6_common 22 = .ok (.ireturn, 1) := by decide +kernel
theorem dX6_wet_0 : decode cX6_wet 0 = .ok (.iconst 0, 1) := by decide +kernel
theorem dX6_wet_1 : decode cX6_wet 1 = .ok (.istore_n 1, 1) := by decide +kernel
theorem dX6_wet_2 : decode cX6_wet 2 = .ok (.iconst 0, 1) := by decide +kernel
theorem dX6_wet_3 : decode cX6_wet 3 = .ok (.istore_n 2, 1) := by decide +kernel
theorem dX6_wet_4 : decode cX6_wet 4 = .ok (.iload_n 2, 1) := by decide +kernel
theorem dX6_wet_5 : decode cX6_wet 5 = .ok (.aload_n 0, 1) := by decide +kernel
theorem dX6_wet_6 : decode cX6_wet 6 = .ok (.invokevirtual 53, 3) := by decide +kernel
theorem dX6_wet_9 : decode cX6_wet 9 = .ok (.if_icmp .ge 26, 3) := by decide +kernel
theorem dX6_wet_12 : decode cX6_wet 12 = .ok (.iload_n 1, 1) := by decide +kernel
theorem dX6_wet_13 : decode cX6_wet 13 = .ok (.aload_n 0, 1) := by decide +kernel
theorem dX6_wet_14 : decode cX6_wet 14 = .ok (.getfield 22, 3) := by decide +kernel
theorem dX6_wet_17 : decode cX6_wet 17 = .ok (.iload_n 2, 1) := by decide +kernel
theorem dX6_wet_18 : decode cX6_wet 18 = .ok (.iaload, 1) := by decide +kernel
theorem dX6_wet_19 : decode cX6_wet 19 = .ok (.ifCond .le 7, 3) := by decide +kernel
theorem dX6_wet_22 : decode cX6_wet 22 = .ok (.iconst 1, 1) := by decide +kernel
theorem dX6_wet_23 : decode cX6_wet 23 = .ok (.goto 4, 3) := by decide +kernel
theorem dX6_wet_26 : decode cX6_wet 26 = .ok (.iconst 0, 1) := by decide +kernel
theorem dX6_wet_27 : decode cX6_wet 27 = .ok (.iadd, 1) := by decide +kernel
theorem dX6_wet_28 : decode cX6_wet 28 = .ok (.istore_n 1, 1) := by decide +kernel
theorem dX6_wet_29 : decode cX6_wet 29 = .ok (.iinc 2 1, 3) := by decide +kernel
theorem dX6_wet_32 : decode cX6_wet 32 = .ok (.goto (-28), 3) := by decide +kernel
theorem dX6_wet_35 : decode cX6_wet 35 = .ok (.iload_n 1, 1) := by decide +kernel
theorem dX6_wet_36 : decode cX6_wet 36 = .ok (.ireturn, 1) := by decide +kernel
theorem dX6_sky_0 : decode cX6_sky 0 = .ok (.aload_n 0, 1) := by decide +kernel
theorem dX6_sky_1 : decode cX6_sky 1 = .ok (.iload_n 1, 1) := by decide +kernel
theorem dX6_sky_2 : decode cX6_sky 2 = .ok (.invokevirtual 98, 3) := by decide +kernel
theorem dX6_sky_5 : decode cX6_sky 5 = .ok (.ifCond .eq 12, 3) := by decide +kernel
theorem dX6_sky_8 : decode cX6_sky 8 = .ok (.iload_n 2, 1) := by decide +kernel
theorem dX6_sky_9 : decode cX6_sky 9 = .ok (.iconst 0, 1) := by decide +kernel
theorem dX6_sky_10 : decode cX6_sky 10 = .ok (.iconst 1, 1) := by decide +kernel
theorem dX6_sky_11 : decode cX6_sky 11 = .ok (.invokestatic 57, 3) := by decide +kernel
theorem dX6_sky_14 : decode cX6_sky 14 = .ok (.ifCond .ne 5, 3) := by decide +kernel
theorem dX6_sky_17 : decode cX6_sky 17 = .ok (.iconst (-1), 1) := by decide +kernel
theorem dX6_sky_18 : decode cX6_sky 18 = .ok (.ireturn, 1) := by decide +kernel
theorem dX6_sky_19 : decode cX6_sky 19 = .ok (.aload_n 0, 1) := by decide +kernel
theorem dX6_sky_20 : decode cX6_sky 20 = .ok (.invokevirtual 118, 3) := by decide +kernel
theorem dX6_sky_23 : decode cX6_sky 23 = .ok (.aload_n 0, 1) := by decide +kernel
theorem dX6_sky_24 : decode cX6_sky 24 = .ok (.getfield 34, 3) := by decide +kernel
theorem dX6_sky_27 : decode cX6_sky 27 = .ok (.iload_n 1, 1) := by decide +kernel
theorem dX6_sky_28 : decode cX6_sky 28 = .ok (.iaload, 1) := by decide +kernel
theorem dX6_sky_29 : decode cX6_sky 29 = .ok (.ifCond .ge 6, 3) := by decide +kernel
theorem dX6_sky_32 : decode cX6_sky 32 = .ok (.bipush (-4), 2) := by decide +kernel
theorem dX6_sky_34 : decode cX6_sky 34 = .ok (.ireturn, 1) := by decide +kernel
theorem dX6_sky_35 : decode cX6_sky 35 = .ok (.aload_n 0, 1) := by decide +kernel
theorem dX6_sky_36 : decode cX6_sky 36 = .ok (.aload_n 0, 1) := by decide +kernel
theorem dX6_sky_37 : decode cX6_sky 37 = .ok (.getfield 34, 3) := by decide +kernel
theorem dX6_sky_40 : decode cX6_sky 40 = .ok (.iload_n 1, 1) := by decide +kernel
theorem dX6_sky_41 : decode cX6_sky 41 = .ok (.iaload, 1) := by decide +kernel
theorem dX6_sky_42 : decode cX6_sky 42 = .ok (.invokevirtual 121, 3) := by decide +kernel
theorem dX6_sky_45 : decode cX6_sky 45 = .ok (.istore_n 3, 1) := by decide +kernel
theorem dX6_sky_46 : decode cX6_sky 46 = .ok (.aload_n 0, 1) := by decide +kernel
theorem dX6_sky_47 : decode cX6_sky 47 = .ok (.invokevirtual 153, 3) := by decide +kernel
theorem dX6_sky_50 : decode cX6_sky 50 = .ok (.istore 4, 2) := by decide +kernel
theorem dX6_sky_52 : decode cX6_sky 52 = .ok (.iload_n 3, 1) := by decide +kernel
theorem dX6_sky_53 : decode cX6_sky 53 = .ok (.iload 4, 2) := by decide +kernel
theorem dX6_sky_55 : decode cX6_sky 55 = .ok (.invokestatic 156, 3) := by decide +kernel
theorem dX6_sky_58 : decode cX6_sky 58 = .ok (.istore 5, 2) := by decide +kernel
theorem dX6_sky_60 : decode cX6_sky 60 = .ok (.iload_n 2, 1) := by decide +kernel
theorem dX6_sky_61 : decode cX6_sky 61 = .ok (.ifCond .ne 10, 3) := by decide +kernel
theorem dX6_sky_64 : decode cX6_sky 64 = .ok (.iload_n 3, 1) := by decide +kernel
theorem dX6_sky_65 : decode cX6_sky 65 = .ok (.iload 5, 2) := by decide +kernel
theorem dX6_sky_67 : decode cX6_sky 67 = .ok (.idiv, 1) := by decide +kernel
theorem dX6_sky_68 : decode cX6_sky 68 = .ok (.goto 8, 3) := by decide +kernel
theorem dX6_sky_71 : decode cX6_sky 71 = .ok (.iload 4, 2) := by decide +kernel
theorem dX6_sky_73 : decode cX6_sky 73 = .ok (.iload 5, 2) := by decide +kernel
theorem dX6_sky_75 : decode cX6_sky 75 = .ok (.idiv, 1) := by decide +kernel
theorem dX6_sky_76 : decode cX6_sky 76 = .ok (.ireturn, 1) := by decide +kernel
theorem dX6_sun_0 : decode cX6_sun 0 = .ok (.aload_n 0, 1) := by decide +kernel
theorem dX6_sun_1 : decode cX6_sun 1 = .ok (.iload_n 1, 1) := by decide +kernel
theorem dX6_sun_2 : decode cX6_sun 2 = .ok (.invokevirtual 98, 3) := by decide +kernel
theorem dX6_sun_5 : decode cX6_sun 5 = .ok (.ifCond .eq 33, 3) := by decide +kernel
theorem dX6_sun_8 : decode cX6_sun 8 = .ok (.iload_n 2, 1) := by decide +kernel
theorem dX6_sun_9 : decode cX6_sun 9 = .ok (.iconst 0, 1) := by decide +kernel
theorem dX6_sun_10 : decode cX6_sun 10 = .ok (.bipush 6, 2) := by decide +kernel
theorem dX6_sun_12 : decode cX6_sun 12 = .ok (.invokestatic 57, 3) := by decide +kernel
theorem dX6_sun_15 : decode cX6_sun 15 = .ok (.ifCond .eq 23, 3) := by decide +kernel
theorem dX6_sun_18 : decode cX6_sun 18 = .ok (.iload_n 3, 1) := by decide +kernel
theorem dX6_sun_19 : decode cX6_sun 19 = .ok (.iconst 0, 1) := by decide +kernel
theorem dX6_sun_20 : decode cX6_sun 20 = .ok (.bipush 10, 2) := by decide +kernel
theorem dX6_sun_22 : decode cX6_sun 22 = .ok (.invokestatic 57, 3) := by decide +kernel
theorem dX6_sun_25 : decode cX6_sun 25 = .ok (.ifCond .eq 13, 3) := by decide +kernel
theorem dX6_sun_28 : decode cX6_sun 28 = .ok (.iload 4, 2) := by decide +kernel
theorem dX6_sun_30 : decode cX6_sun 30 = .ok (.iconst 0, 1) := by decide +kernel
theorem dX6_sun_31 : decode cX6_sun 31 = .ok (.iconst 1, 1) := by decide +kernel
theorem dX6_sun_32 : decode cX6_sun 32 = .ok (.invokestatic 57, 3) := by decide +kernel
theorem dX6_sun_35 : decode cX6_sun 35 = .ok (.ifCond .ne 5, 3) := by decide +kernel
theorem dX6_sun_38 : decode cX6_sun 38 = .ok (.iconst (-1), 1) := by decide +kernel
theorem dX6_sun_39 : decode cX6_sun 39 = .ok (.ireturn, 1) := by decide +kernel
theorem dX6_sun_40 : decode cX6_sun 40 = .ok (.aload_n 0, 1) := by decide +kernel
theorem dX6_sun_41 : decode cX6_sun 41 = .ok (.invokevirtual 137, 3) := by decide +kernel
theorem dX6_sun_44 : decode cX6_sun 44 = .ok (.iconst 0, 1) := by decide +kernel
theorem dX6_sun_45 : decode cX6_sun 45 = .ok (.istore 5, 2) := by decide +kernel
theorem dX6_sun_47 : decode cX6_sun 47 = .ok (.iconst 1, 1) := by decide +kernel
theorem dX6_sun_48 : decode cX6_sun 48 = .ok (.istore 6, 2) := by decide +kernel
theorem dX6_sun_50 : decode cX6_sun 50 = .ok (.iconst 0, 1) := by decide +kernel
theorem dX6_sun_51 : decode cX6_sun 51 = .ok (.istore 7, 2) := by decide +kernel
theorem dX6_sun_53 : decode cX6_sun 53 = .ok (.iload 7, 2) := by decide +kernel
theorem dX6_sun_55 : decode cX6_sun 55 = .ok (.iload_n 2, 1) := by decide +kernel
theorem dX6_sun_56 : decode cX6_sun 56 = .ok (.if_icmp .ge 16, 3) := by decide +kernel
theorem dX6_sun_59 : decode cX6_sun 59 = .ok (.iload 6, 2) := by decide +kernel
theorem dX6_sun_61 : decode cX6_sun 61 = .ok (.bipush 10, 2) := by decide +kernel
theorem dX6_sun_63 : decode cX6_sun 63 = .ok (.imul, 1) := by decide +kernel
theorem dX6_sun_64 : decode cX6_sun 64 = .ok (.istore 6, 2) := by decide +kernel
theorem dX6_sun_66 : decode cX6_sun 66 = .ok (.iinc 7 1, 3) := by decide +kernel
theorem dX6_sun_69 : decode cX6_sun 69 = .ok (.goto (-16), 3) := by decide +kernel
theorem dX6_sun_72 : decode cX6_sun 72 = .ok (.iconst 0, 1) := by decide +kernel
theorem dX6_sun_73 : decode cX6_sun 73 = .ok (.istore 7, 2) := by decide +kernel
theorem dX6_sun_75 : decode cX6_sun 75 = .ok (.iload 7, 2) := by decide +kernel
theorem dX6_sun_77 : decode cX6_sun 77 = .ok (.iconst 1, 1) := by decide +kernel
theorem dX6_sun_78 : decode cX6_sun 78 = .ok (.iload_n 2, 1) := by decide +kernel
theorem dX6_sun_79 : decode cX6_sun 79 = .ok (.ishl, 1) := by decide +kernel
theorem dX6_sun_80 : decode cX6_sun 80 = .ok (.if_icmp .ge 96, 3) := by decide +kernel
theorem dX6_sun_83 : decode cX6_sun 83 = .ok (.iconst 1, 1) := by decide +kernel
theorem dX6_sun_84 : decode cX6_sun 84 = .ok (.istore 8, 2) := by decide +kernel
theorem dX6_sun_86 : decode cX6_sun 86 = .ok (.iconst 0, 1) := by decide +kernel
theorem dX6_sun_87 : decode cX6_sun 87 = .ok (.istore 9, 2) := by decide +kernel
theorem dX6_sun_89 : decode cX6_sun 89 = .ok (.iload 9, 2) := by decide +kernel
theorem dX6_sun_91 : decode cX6_sun 91 = .ok (.iload_n 2, 1) := by decide +kernel
theorem dX6_sun_92 : decode cX6_sun 92 = .ok (.if_icmp .ge 54, 3) := by decide +kernel
theorem dX6_sun_95 : decode cX6_sun 95 = .ok (.iload 7, 2) := by decide +kernel
theorem dX6_sun_97 : decode cX6_sun 97 = .ok (.iload 9, 2) := by decide +kernel
theorem dX6_sun_99 : decode cX6_sun 99 = .ok (.ishr, 1) := by decide +kernel
theorem dX6_sun_100 : decode cX6_sun 100 = .ok (.iconst 1, 1) := by decide +kernel
theorem dX6_sun_101 : decode cX6_sun 101 = .ok (.iand, 1) := by decide +kernel
theorem dX6_sun_102 : decode cX6_sun 102 = .ok (.iconst 1, 1) := by decide +kernel
theorem dX6_sun_103 : decode cX6_sun 103 = .ok (.if_icmp .ne 7, 3) := by decide +kernel
theorem dX6_sun_106 : decode cX6_sun 106 = .ok (.iconst 1, 1) := by decide +kernel
theorem dX6_sun_107 : decode cX6_sun 107 = .ok (.goto 4, 3) := by decide +kernel
theorem dX6_sun_110 : decode cX6_sun 110 = .ok (.iconst 0, 1) := by decide +kernel
theorem dX6_sun_111 : decode cX6_sun 111 = .ok (.istore 10, 2) := by decide +kernel
theorem dX6_sun_113 : decode cX6_sun 113 = .ok (.iload 8, 2) := by decide +kernel
theorem dX6_sun_115 : decode cX6_sun 115 = .ok (.iload 10, 2) := by decide +kernel
theorem dX6_sun_117 : decode cX6_sun 117 = .ok (.ifCond .eq 7, 3) := by decide +kernel
theorem dX6_sun_120 : decode cX6_sun 120 = .ok (.iload_n 3, 1) := by decide +kernel
theorem dX6_sun_121 : decode cX6_sun 121 = .ok (.goto 7, 3) := by decide +kernel
theorem dX6_sun_124 : decode cX6_sun 124 = .ok (.bipush 10, 2) := by decide +kernel
theorem dX6_sun_126 : decode cX6_sun 126 = .ok (.iload_n 3, 1) := by decide +kernel
theorem dX6_sun_127 : decode cX6_sun 127 = .ok (.isub, 1) := by decide +kernel
theorem dX6_sun_128 : decode cX6_sun 128 = .ok (.imul, 1) := by decide +kernel
theorem dX6_sun_129 : decode cX6_sun 129 = .ok (.istore 8, 2) := by decide +kernel
theorem dX6_sun_131 : decode cX6_sun 131 = .ok (.iload 10, 2) := by decide +kernel
theorem dX6_sun_133 : decode cX6_sun 133 = .ok (.ifCond .eq 7, 3) := by decide +kernel
theorem dX6_sun_136 : decode cX6_sun 136 = .ok (.aload_n 0, 1) := by decide +kernel
theorem dX6_sun_137 : decode cX6_sun 137 = .ok (.invokevirtual 134, 3) := by decide +kernel
theorem dX6_sun_140 : decode cX6_sun 140 = .ok (.iinc 9 1, 3) := by decide +kernel
theorem dX6_sun_143 : decode cX6_sun 143 = .ok (.goto (-54), 3) := by decide +kernel
theorem dX6_sun_146 : decode cX6_sun 146 = .ok (.iload 5, 2) := by decide +kernel
theorem dX6_sun_148 : decode cX6_sun 148 = .ok (.aload_n 0, 1) := by decide +kernel
theorem dX6_sun_149 : decode cX6_sun 149 = .ok (.getfield 22, 3) := by decide +kernel
theorem dX6_sun_152 : decode cX6_sun 152 = .ok (.iload_n 1, 1) := by decide +kernel
theorem dX6_sun_153 : decode cX6_sun 153 = .ok (.iaload, 1) := by decide +kernel
theorem dX6_sun_154 : decode cX6_sun 154 = .ok (.ifCond .le 8, 3) := by decide +kernel
theorem dX6_sun_157 : decode cX6_sun 157 = .ok (.iload 8, 2) := by decide +kernel
theorem dX6_sun_159 : decode cX6_sun 159 = .ok (.goto 4, 3) := by decide +kernel
theorem dX6_sun_162 : decode cX6_sun 162 = .ok (.iconst 0, 1) := by decide +kernel
theorem dX6_sun_163 : decode cX6_sun 163 = .ok (.iadd, 1) := by decide +kernel
theorem dX6_sun_164 : decode cX6_sun 164 = .ok (.istore 5, 2) := by decide +kernel
theorem dX6_sun_166 : decode cX6_sun 166 = .ok (.aload_n 0, 1) := by decide +kernel
theorem dX6_sun_167 : decode cX6_sun 167 = .ok (.invokevirtual 140, 3) := by decide +kernel
theorem dX6_sun_170 : decode cX6_sun 170 = .ok (.iinc 7 1, 3) := by decide +kernel
theorem dX6_sun_173 : decode cX6_sun 173 = .ok (.goto (-98), 3) := by decide +kernel
theorem dX6_sun_176 : decode cX6_sun 176 = .ok (.iload 5, 2) := by decide +kernel
theorem dX6_sun_178 : decode cX6_sun 178 = .ok (.iload 6, 2) := by decide +kernel
theorem dX6_sun_180 : decode cX6_sun 180 = .ok (.invokestatic 156, 3) := by decide +kernel
theorem dX6_sun_183 : decode cX6_sun 183 = .ok (.istore 7, 2) := by decide +kernel
theorem dX6_sun_185 : decode cX6_sun 185 = .ok (.iload 4, 2) := by decide +kernel
theorem dX6_sun_187 : decode cX6_sun 187 = .ok (.ifCond .ne 11, 3) := by decide +kernel
theorem dX6_sun_190 : decode cX6_sun 190 = .ok (.iload 5, 2) := by decide +kernel
theorem dX6_sun_192 : decode cX6_sun 192 = .ok (.iload 7, 2) := by decide +kernel
theorem dX6_sun_194 : decode cX6_sun 194 = .ok (.idiv, 1) := by decide +kernel
theorem dX6_sun_195 : decode cX6_sun 195 = .ok (.goto 8, 3) := by decide +kernel
theorem dX6_sun_198 : decode cX6_sun 198 = .ok (.iload 6, 2) := by decide +kernel
theorem dX6_sun_200 : decode cX6_sun 200 = .ok (.iload 7, 2) := by decide +kernel
theorem dX6_sun_202 : decode cX6_sun 202 = .ok (.idiv, 1) := by decide +kernel
theorem dX6_sun_203 : decode cX6_sun 203 = .ok (.ireturn, 1) := by decide +kernel
theorem dX6_manyStates_0 : decode cX6_manyStates 0 = .ok (.aload_n 0, 1) := by decide +kernel
theorem dX6_manyStates_1 : decode cX6_manyStates 1 = .ok (.invokevirtual 118, 3) := by decide +kernel
theorem dX6_manyStates_4 : decode cX6_manyStates 4 = .ok (.iconst 0, 1) := by decide +kernel
theorem dX6_manyStates_5 : decode cX6_manyStates 5 = .ok (.istore_n 1, 1) := by decide +kernel
theorem dX6_manyStates_6 : decode cX6_manyStates 6 = .ok (.iconst 0, 1) := by decide +kernel
theorem dX6_manyStates_7 : decode cX6_manyStates 7 = .ok (.istore_n 2, 1) := by decide +kernel
theorem dX6_manyStates_8 : decode cX6_manyStates 8 = .ok (.iload_n 2, 1) := by decide +kernel
theorem dX6_manyStates_9 : decode cX6_manyStates 9 = .ok (.aload_n 0, 1) := by decide +kernel
theorem dX6_manyStates_10 : decode cX6_manyStates 10 = .ok (.invokevirtual 53, 3) := by decide +kernel
theorem dX6_manyStates_13 : decode cX6_manyStates 13 = .ok (.if_icmp .ge 27, 3) := by decide +kernel
theorem dX6_manyStates_16 : decode cX6_manyStates 16 = .ok (.iload_n 1, 1) := by decide +kernel
theorem dX6_manyStates_17 : decode cX6_manyStates 17 = .ok (.aload_n 0, 1) := by decide +kernel
theorem dX6_manyStates_18 : decode cX6_manyStates 18 = .ok (.getfield 34, 3) := by decide +kernel
theorem dX6_manyStates_21 : decode cX6_manyStates 21 = .ok (.iload_n 2, 1) := by decide +kernel
theorem dX6_manyStates_22 : decode cX6_manyStates 22 = .ok (.iaload, 1) := by decide +kernel
theorem dX6_manyStates_23 : decode cX6_manyStates 23 = .ok (.iload_n 2, 1) := by decide +kernel
theorem dX6_manyStates_24 : decode cX6_manyStates 24 = .ok (.if_icmp .ne 7, 3) := by decide +kernel
theorem dX6_manyStates_27 : decode cX6_manyStates 27 = .ok (.iconst 1, 1) := by decide +kernel
theorem dX6_manyStates_28 : decode cX6_manyStates 28 = .ok (.goto 4, 3) := by decide +kernel
theorem dX6_manyStates_31 : decode cX6_manyStates 31 = .ok (.iconst 0, 1) := by decide +kernel
theorem dX6_manyStates_32 : decode cX6_manyStates 32 = .ok (.iadd, 1) := by decide +kernel
theorem dX6_manyStates_33 : decode cX6_manyStates 33 = .ok (.istore_n 1, 1) := by decide +kernel
theorem dX6_manyStates_34 : decode cX6_manyStates 34 = .ok (.iinc 2 1, 3) := by decide +kernel
theorem dX6_manyStates_37 : decode cX6_manyStates 37 = .ok (.goto (-29), 3) := by decide +kernel
theorem dX6_manyStates_40 : decode cX6_manyStates 40 = .ok (.iload_n 1, 1) := by decide +kernel
theorem dX6_manyStates_41 : decode cX6_manyStates 41 = .ok (.ireturn, 1) := by decide +kernel
theorem dX6_year_0 : decode cX6_year 0 = .ok (.iload_n 1, 1) := by decide +kernel
theorem dX6_year_1 : decode cX6_year 1 = .ok (.iconst 0, 1) := by decide +kernel
theorem dX6_year_2 : decode cX6_year 2 = .ok (.sipush 9999, 3) := by decide +kernel
theorem dX6_year_5 : decode cX6_year 5 = .ok (.invokestatic 57, 3) := by decide +kernel
theorem dX6_year_8 : decode cX6_year 8 = .ok (.ifCond .eq 22, 3) := by decide +kernel
theorem dX6_year_11 : decode cX6_year 11 = .ok (.iload_n 2, 1) := by decide +kernel
theorem dX6_year_12 : decode cX6_year 12 = .ok (.iconst 1, 1) := by decide +kernel
theorem dX6_year_13 : decode cX6_year 13 = .ok (.bipush 30, 2) := by decide +kernel
theorem dX6_year_15 : decode cX6_year 15 = .ok (.invokestatic 57, 3) := by decide +kernel
theorem dX6_year_18 : decode cX6_year 18 = .ok (.ifCond .eq 12, 3) := by decide +kernel
theorem dX6_year_21 : decode cX6_year 21 = .ok (.iload_n 3, 1) := by decide +kernel
theorem dX6_year_22 : decode cX6_year 22 = .ok (.iconst 0, 1) := by decide +kernel
theorem dX6_year_23 : decode cX6_year 23 = .ok (.iconst 1, 1) := by decide +kernel
theorem dX6_year_24 : decode cX6_year 24 = .ok (.invokestatic 57, 3) := by decide +kernel
theorem dX6_year_27 : decode cX6_year 27 = .ok (.ifCond .ne 5, 3) := by decide +kernel
theorem dX6_year_30 : decode cX6_year 30 = .ok (.iconst (-1), 1) := by decide +kernel
theorem dX6_year_31 : decode cX6_year 31 = .ok (.ireturn, 1) := by decide +kernel
theorem dX6_year_32 : decode cX6_year 32 = .ok (.aload_n 0, 1) := by decide +kernel
theorem dX6_year_33 : decode cX6_year 33 = .ok (.invokevirtual 137, 3) := by decide +kernel
theorem dX6_year_36 : decode cX6_year 36 = .ok (.iconst 0, 1) := by decide +kernel
theorem dX6_year_37 : decode cX6_year 37 = .ok (.istore 4, 2) := by decide +kernel
theorem dX6_year_39 : decode cX6_year 39 = .ok (.iload 4, 2) := by decide +kernel
theorem dX6_year_41 : decode cX6_year 41 = .ok (.iload_n 2, 1) := by decide +kernel
theorem dX6_year_42 : decode cX6_year 42 = .ok (.if_icmp .ge 81, 3) := by decide +kernel
theorem dX6_year_45 : decode cX6_year 45 = .ok (.ldc2_w 159, 3) := by decide +kernel
theorem dX6_year_48 : decode cX6_year 48 = .ok (.iload_n 1, 1) := by decide +kernel
theorem dX6_year_49 : decode cX6_year 49 = .ok (.i2l, 1) := by decide +kernel
theorem dX6_year_50 : decode cX6_year 50 = .ok (.lmul, 1) := by decide +kernel
theorem dX6_year_51 : decode cX6_year 51 = .ok (.ldc2_w 161, 3) := by decide +kernel
theorem dX6_year_54 : decode cX6_year 54 = .ok (.iload 4, 2) := by decide +kernel
theorem dX6_year_56 : decode cX6_year 56 = .ok (.i2l, 1) := by decide +kernel
theorem dX6_year_57 : decode cX6_year 57 = .ok (.lmul, 1) := by decide +kernel
theorem dX6_year_58 : decode cX6_year 58 = .ok (.ladd, 1) := by decide +kernel
theorem dX6_year_59 : decode cX6_year 59 = .ok (.lconst 1, 1) := by decide +kernel
theorem dX6_year_60 : decode cX6_year 60 = .ok (.ladd, 1) := by decide +kernel
theorem dX6_year_61 : decode cX6_year 61 = .ok (.lstore 5, 2) := by decide +kernel
theorem dX6_year_63 : decode cX6_year 63 = .ok (.lload 5, 2) := by decide +kernel
theorem dX6_year_65 : decode cX6_year 65 = .ok (.lload 5, 2) := by decide +kernel
theorem dX6_year_67 : decode cX6_year 67 = .ok (.lmul, 1) := by decide +kernel
theorem dX6_year_68 : decode cX6_year 68 = .ok (.ldc2_w 163, 3) := by decide +kernel
theorem dX6_year_71 : decode cX6_year 71 = .ok (.lrem, 1) := by decide +kernel
theorem dX6_year_72 : decode cX6_year 72 = .ok (.l2i, 1) := by decide +kernel
theorem dX6_year_73 : decode cX6_year 73 = .ok (.bipush 8, 2) := by decide +kernel
theorem dX6_year_75 : decode cX6_year 75 = .ok (.idiv, 1) := by decide +kernel
theorem dX6_year_76 : decode cX6_year 76 = .ok (.istore 7, 2) := by decide +kernel
theorem dX6_year_78 : decode cX6_year 78 = .ok (.iload 7, 2) := by decide +kernel
theorem dX6_year_80 : decode cX6_year 80 = .ok (.iconst 4, 1) := by decide +kernel
theorem dX6_year_81 : decode cX6_year 81 = .ok (.irem, 1) := by decide +kernel
theorem dX6_year_82 : decode cX6_year 82 = .ok (.ifCond .le 11, 3) := by decide +kernel
theorem dX6_year_85 : decode cX6_year 85 = .ok (.aload_n 0, 1) := by decide +kernel
theorem dX6_year_86 : decode cX6_year 86 = .ok (.iload 7, 2) := by decide +kernel
theorem dX6_year_88 : decode cX6_year 88 = .ok (.iconst 4, 1) := by decide +kernel
theorem dX6_year_89 : decode cX6_year 89 = .ok (.irem, 1) := by decide +kernel
theorem dX6_year_90 : decode cX6_year 90 = .ok (.invokevirtual 127, 3) := by decide +kernel
theorem dX6_year_93 : decode cX6_year 93 = .ok (.iconst 0, 1) := by decide +kernel
theorem dX6_year_94 : decode cX6_year 94 = .ok (.istore 8, 2) := by decide +kernel
theorem dX6_year_96 : decode cX6_year 96 = .ok (.iload 8, 2) := by decide +kernel
theorem dX6_year_98 : decode cX6_year 98 = .ok (.iload 7, 2) := by decide +kernel
theorem dX6_year_100 : decode cX6_year 100 = .ok (.iconst 4, 1) := by decide +kernel
theorem dX6_year_101 : decode cX6_year 101 = .ok (.idiv, 1) := by decide +kernel
theorem dX6_year_102 : decode cX6_year 102 = .ok (.iconst 4, 1) := by decide +kernel
theorem dX6_year_103 : decode cX6_year 103 = .ok (.irem, 1) := by decide +kernel
theorem dX6_year_104 : decode cX6_year 104 = .ok (.if_icmp .ge 13, 3) := by decide +kernel
theorem dX6_year_107 : decode cX6_year 107 = .ok (.aload_n 0, 1) := by decide +kernel
theorem dX6_year_108 : decode cX6_year 108 = .ok (.invokevirtual 134, 3) := by decide +kernel
theorem dX6_year_111 : decode cX6_year 111 = .ok (.iinc 8 1, 3) := by decide +kernel
theorem dX6_year_114 : decode cX6_year 114 = .ok (.goto (-18), 3) := by decide +kernel
theorem dX6_year_117 : decode cX6_year 117 = .ok (.iinc 4 1, 3) := by decide +kernel
theorem dX6_year_120 : decode cX6_year 120 = .ok (.goto (-81), 3) := by decide +kernel
theorem dX6_year_123 : decode cX6_year 123 = .ok (.iload_n 3, 1) := by decide +kernel
theorem dX6_year_124 : decode cX6_year 124 = .ok (.ifCond .ne 10, 3) := by decide +kernel
theorem dX6_year_127 : decode cX6_year 127 = .ok (.aload_n 0, 1) := by decide +kernel
theorem dX6_year_128 : decode cX6_year 128 = .ok (.invokevirtual 165, 3) := by decide +kernel
theorem dX6_year_131 : decode cX6_year 131 = .ok (.goto 7, 3) := by decide +kernel
theorem dX6_year_134 : decode cX6_year 134 = .ok (.aload_n 0, 1) := by decide +kernel
theorem dX6_year_135 : decode cX6_year 135 = .ok (.invokevirtual 131, 3) := by decide +kernel
theorem dX6_year_138 : decode cX6_year 138 = .ok (.istore 4, 2) := by decide +kernel
theorem dX6_year_140 : decode cX6_year 140 = .ok (.aload_n 0, 1) := by decide +kernel
theorem dX6_year_141 : decode cX6_year 141 = .ok (.invokevirtual 140, 3) := by decide +kernel
theorem dX6_year_144 : decode cX6_year 144 = .ok (.iload 4, 2) := by decide +kernel
theorem dX6_year_146 : decode cX6_year 146 = .ok (.ireturn, 1) := by decide +kernel
theorem dX6_keep_0 : decode cX6_keep 0 = .ok (.aload_n 0, 1) := by decide +kernel
theorem dX6_keep_1 : decode cX6_keep 1 = .ok (.getfield 92, 3) := by decide +kernel
theorem dX6_keep_4 : decode cX6_keep 4 = .ok (.iconst 2, 1) := by decide +kernel
theorem dX6_keep_5 : decode cX6_keep 5 = .ok (.if_icmp .ne 6, 3) := by decide +kernel
theorem dX6_keep_8 : decode cX6_keep 8 = .ok (.bipush (-3), 2) := by decide +kernel
theorem dX6_keep_10 : decode cX6_keep 10 = .ok (.ireturn, 1) := by decide +kernel
theorem dX6_keep_11 : decode cX6_keep 11 = .ok (.iconst 0, 1) := by decide +kernel
theorem dX6_keep_12 : decode cX6_keep 12 = .ok (.istore_n 1, 1) := by decide +kernel
theorem dX6_keep_13 : decode cX6_keep 13 = .ok (.iload_n 1, 1) := by decide +kernel
theorem dX6_keep_14 : decode cX6_keep 14 = .ok (.bipush 73, 2) := by decide +kernel
theorem dX6_keep_16 : decode cX6_keep 16 = .ok (.if_icmp .ge 29, 3) := by decide +kernel
theorem dX6_keep_19 : decode cX6_keep 19 = .ok (.aload_n 0, 1) := by decide +kernel
theorem dX6_keep_20 : decode cX6_keep 20 = .ok (.getfield 28, 3) := by decide +kernel
theorem dX6_keep_23 : decode cX6_keep 23 = .ok (.bipush 73, 2) := by decide +kernel
theorem dX6_keep_25 : decode cX6_keep 25 = .ok (.aload_n 0, 1) := by decide +kernel
theorem dX6_keep_26 : decode cX6_keep 26 = .ok (.getfield 92, 3) := by decide +kernel
theorem dX6_keep_29 : decode cX6_keep 29 = .ok (.imul, 1) := by decide +kernel
theorem dX6_keep_30 : decode cX6_keep 30 = .ok (.iload_n 1, 1) := by decide +kernel
theorem dX6_keep_31 : decode cX6_keep 31 = .ok (.iadd, 1) := by decide +kernel
theorem dX6_keep_32 : decode cX6_keep 32 = .ok (.aload_n 0, 1) := by decide +kernel
theorem dX6_keep_33 : decode cX6_keep 33 = .ok (.getfield 22, 3) := by decide +kernel
theorem dX6_keep_36 : decode cX6_keep 36 = .ok (.iload_n 1, 1) := by decide +kernel
theorem dX6_keep_37 : decode cX6_keep 37 = .ok (.iaload, 1) := by decide +kernel
theorem dX6_keep_38 : decode cX6_keep 38 = .ok (.iastore, 1) := by decide +kernel
theorem dX6_keep_39 : decode cX6_keep 39 = .ok (.iinc 1 1, 3) := by decide +kernel
theorem dX6_keep_42 : decode cX6_keep 42 = .ok (.goto (-29), 3) := by decide +kernel
theorem dX6_keep_45 : decode cX6_keep 45 = .ok (.aload_n 0, 1) := by decide +kernel
theorem dX6_keep_46 : decode cX6_keep 46 = .ok (.dup, 1) := by decide +kernel
theorem dX6_keep_47 : decode cX6_keep 47 = .ok (.getfield 92, 3) := by decide +kernel
theorem dX6_keep_50 : decode cX6_keep 50 = .ok (.iconst 1, 1) := by decide +kernel
theorem dX6_keep_51 : decode cX6_keep 51 = .ok (.iadd, 1) := by decide +kernel
theorem dX6_keep_52 : decode cX6_keep 52 = .ok (.putfield 92, 3) := by decide +kernel
theorem dX6_keep_55 : decode cX6_keep 55 = .ok (.aload_n 0, 1) := by decide +kernel
theorem dX6_keep_56 : decode cX6_keep 56 = .ok (.getfield 92, 3) := by decide +kernel
theorem dX6_keep_59 : decode cX6_keep 59 = .ok (.ireturn, 1) := by decide +kernel
theorem dX6_back_0 : decode cX6_back 0 = .ok (.aload_n 0, 1) := by decide +kernel
theorem dX6_back_1 : decode cX6_back 1 = .ok (.getfield 92, 3) := by decide +kernel
theorem dX6_back_4 : decode cX6_back 4 = .ok (.ifCond .ne 6, 3) := by decide +kernel
theorem dX6_back_7 : decode cX6_back 7 = .ok (.bipush (-2), 2) := by decide +kernel
theorem dX6_back_9 : decode cX6_back 9 = .ok (.ireturn, 1) := by decide +kernel
theorem dX6_back_10 : decode cX6_back 10 = .ok (.aload_n 0, 1) := by decide +kernel
theorem dX6_back_11 : decode cX6_back 11 = .ok (.dup, 1) := by decide +kernel
theorem dX6_back_12 : decode cX6_back 12 = .ok (.getfield 92, 3) := by decide +kernel
theorem dX6_back_15 : decode cX6_back 15 = .ok (.iconst 1, 1) := by decide +kernel
theorem dX6_back_16 : decode cX6_back 16 = .ok (.isub, 1) := by decide +kernel
theorem dX6_back_17 : decode cX6_back 17 = .ok (.putfield 92, 3) := by decide +kernel
theorem dX6_back_20 : decode cX6_back 20 = .ok (.iconst 0, 1) := by decide +kernel
theorem dX6_back_21 : decode cX6_back 21 = .ok (.istore_n 1, 1) := by decide +kernel
theorem dX6_back_22 : decode cX6_back 22 = .ok (.iload_n 1, 1) := by decide +kernel
theorem dX6_back_23 : decode cX6_back 23 = .ok (.bipush 73, 2) := by decide +kernel
theorem dX6_back_25 : decode cX6_back 25 = .ok (.if_icmp .ge 29, 3) := by decide +kernel
theorem dX6_back_28 : decode cX6_back 28 = .ok (.aload_n 0, 1) := by decide +kernel
theorem dX6_back_29 : decode cX6_back 29 = .ok (.getfield 22, 3) := by decide +kernel
theorem dX6_back_32 : decode cX6_back 32 = .ok (.iload_n 1, 1) := by decide +kernel
theorem dX6_back_33 : decode cX6_back 33 = .ok (.aload_n 0, 1) := by decide +kernel
theorem dX6_back_34 : decode cX6_back 34 = .ok (.getfield 28, 3) := by decide +kernel
theorem dX6_back_37 : decode cX6_back 37 = .ok (.bipush 73, 2) := by decide +kernel
theorem dX6_back_39 : decode cX6_back 39 = .ok (.aload_n 0, 1) := by decide +kernel
theorem dX6_back_40 : decode cX6_back 40 = .ok (.getfield 92, 3) := by decide +kernel
theorem dX6_back_43 : decode cX6_back 43 = .ok (.imul, 1) := by decide +kernel
theorem dX6_back_44 : decode cX6_back 44 = .ok (.iload_n 1, 1) := by decide +kernel
theorem dX6_back_45 : decode cX6_back 45 = .ok (.iadd, 1) := by decide +kernel
theorem dX6_back_46 : decode cX6_back 46 = .ok (.iaload, 1) := by decide +kernel
theorem dX6_back_47 : decode cX6_back 47 = .ok (.iastore, 1) := by decide +kernel
theorem dX6_back_48 : decode cX6_back 48 = .ok (.iinc 1 1, 3) := by decide +kernel
theorem dX6_back_51 : decode cX6_back 51 = .ok (.goto (-29), 3) := by decide +kernel
theorem dX6_back_54 : decode cX6_back 54 = .ok (.aload_n 0, 1) := by decide +kernel
theorem dX6_back_55 : decode cX6_back 55 = .ok (.iconst 0, 1) := by decide +kernel
theorem dX6_back_56 : decode cX6_back 56 = .ok (.putfield 89, 3) := by decide +kernel
theorem dX6_back_59 : decode cX6_back 59 = .ok (.aload_n 0, 1) := by decide +kernel
theorem dX6_back_60 : decode cX6_back 60 = .ok (.getfield 92, 3) := by decide +kernel
theorem dX6_back_63 : decode cX6_back 63 = .ok (.ireturn, 1) := by decide +kernel
theorem dX6_count_0 : decode cX6_count 0 = .ok (.iload_n 1, 1) := by decide +kernel
theorem dX6_count_1 : decode cX6_count 1 = .ok (.tableswitch 110 0 9 #[55, 60, 67, 72, 77, 82, 90, 95, 100, 105], 55) := by decide +kernel
theorem dX6_count_56 : decode cX6_count 56 = .ok (.aload_n 0, 1) := by decide +kernel
theorem dX6_count_57 : decode cX6_count 57 = .ok (.invokevirtual 53, 3) := by decide +kernel
theorem dX6_count_60 : decode cX6_count 60 = .ok (.ireturn, 1) := by decide +kernel
theorem dX6_count_61 : decode cX6_count 61 = .ok (.aload_n 0, 1) := by decide +kernel
theorem dX6_count_62 : decode cX6_count 62 = .ok (.getfield 13, 3) := by decide +kernel
theorem dX6_count_65 : decode cX6_count 65 = .ok (.iconst 0, 1) := by decide +kernel
theorem dX6_count_66 : decode cX6_count 66 = .ok (.iaload, 1) := by decide +kernel
theorem dX6_count_67 : decode cX6_count 67 = .ok (.ireturn, 1) := by decide +kernel
theorem dX6_count_68 : decode cX6_count 68 = .ok (.aload_n 0, 1) := by decide +kernel
theorem dX6_count_69 : decode cX6_count 69 = .ok (.invokevirtual 153, 3) := by decide +kernel
theorem dX6_count_72 : decode cX6_count 72 = .ok (.ireturn, 1) := by decide +kernel
theorem dX6_count_73 : decode cX6_count 73 = .ok (.aload_n 0, 1) := by decide +kernel
theorem dX6_count_74 : decode cX6_count 74 = .ok (.invokevirtual 165, 3) := by decide +kernel
theorem dX6_count_77 : decode cX6_count 77 = .ok (.ireturn, 1) := by decide +kernel
theorem dX6_count_78 : decode cX6_count 78 = .ok (.aload_n 0, 1) := by decide +kernel
theorem dX6_count_79 : decode cX6_count 79 = .ok (.invokevirtual 131, 3) := by decide +kernel
theorem dX6_count_82 : decode cX6_count 82 = .ok (.ireturn, 1) := by decide +kernel
theorem dX6_count_83 : decode cX6_count 83 = .ok (.aload_n 0, 1) := by decide +kernel
theorem dX6_count_84 : decode cX6_count 84 = .ok (.getfield 22, 3) := by decide +kernel
theorem dX6_count_87 : decode cX6_count 87 = .ok (.bipush 72, 2) := by decide +kernel
theorem dX6_count_89 : decode cX6_count 89 = .ok (.iaload, 1) := by decide +kernel
theorem dX6_count_90 : decode cX6_count 90 = .ok (.ireturn, 1) := by decide +kernel
theorem dX6_count_91 : decode cX6_count 91 = .ok (.aload_n 0, 1) := by decide +kernel
theorem dX6_count_92 : decode cX6_count 92 = .ok (.getfield 95, 3) := by decide +kernel
theorem dX6_count_95 : decode cX6_count 95 = .ok (.ireturn, 1) := by decide +kernel
theorem dX6_count_96 : decode cX6_count 96 = .ok (.aload_n 0, 1) := by decide +kernel
theorem dX6_count_97 : decode cX6_count 97 = .ok (.getfield 89, 3) := by decide +kernel
theorem dX6_count_100 : decode cX6_count 100 = .ok (.ireturn, 1) := by decide +kernel
theorem dX6_count_101 : decode cX6_count 101 = .ok (.aload_n 0, 1) := by decide +kernel
theorem dX6_count_102 : decode cX6_count 102 = .ok (.getfield 92, 3) := by decide +kernel
theorem dX6_count_105 : decode cX6_count 105 = .ok (.ireturn, 1) := by decide +kernel
theorem dX6_count_106 : decode cX6_count 106 = .ok (.aload_n 0, 1) := by decide +kernel
theorem dX6_count_107 : decode cX6_count 107 = .ok (.getfield 61, 3) := by decide +kernel
theorem dX6_count_110 : decode cX6_count 110 = .ok (.ireturn, 1) := by decide +kernel
theorem dX6_count_111 : decode cX6_count 111 = .ok (.iconst (-1), 1) := by decide +kernel
theorem dX6_count_112 : decode cX6_count 112 = .ok (.ireturn, 1) := by decide +kernel
theorem dJ6_bitCount_0f7a4_0 : decode cJ6_bitCount_0f7a4 0 = .ok (.iload_n 0, 1) := by decide +kernel
theorem dJ6_bitCount_0f7a4_1 : decode cJ6_bitCount_0f7a4 1 = .ok (.iload_n 0, 1) := by decide +kernel
theorem dJ6_bitCount_0f7a4_2 : decode cJ6_bitCount_0f7a4 2 = .ok (.iconst 1, 1) := by decide +kernel
theorem dJ6_bitCount_0f7a4_3 : decode cJ6_bitCount_0f7a4 3 = .ok (.iushr, 1) := by decide +kernel
theorem dJ6_bitCount_0f7a4_4 : decode cJ6_bitCount_0f7a4 4 = .ok (.ldc_w 265, 3) := by decide +kernel
theorem dJ6_bitCount_0f7a4_7 : decode cJ6_bitCount_0f7a4 7 = .ok (.iand, 1) := by decide +kernel
theorem dJ6_bitCount_0f7a4_8 : decode cJ6_bitCount_0f7a4 8 = .ok (.isub, 1) := by decide +kernel
theorem dJ6_bitCount_0f7a4_9 : decode cJ6_bitCount_0f7a4 9 = .ok (.istore_n 0, 1) := by decide +kernel
theorem dJ6_bitCount_0f7a4_10 : decode cJ6_bitCount_0f7a4 10 = .ok (.iload_n 0, 1) := by decide +kernel
theorem dJ6_bitCount_0f7a4_11 : decode cJ6_bitCount_0f7a4 11 = .ok (.ldc_w 266, 3) := by decide +kernel
theorem dJ6_bitCount_0f7a4_14 : decode cJ6_bitCount_0f7a4 14 = .ok (.iand, 1) := by decide +kernel
theorem dJ6_bitCount_0f7a4_15 : decode cJ6_bitCount_0f7a4 15 = .ok (.iload_n 0, 1) := by decide +kernel
theorem dJ6_bitCount_0f7a4_16 : decode cJ6_bitCount_0f7a4 16 = .ok (.iconst 2, 1) := by decide +kernel
theorem dJ6_bitCount_0f7a4_17 : decode cJ6_bitCount_0f7a4 17 = .ok (.iushr, 1) := by decide +kernel
theorem dJ6_bitCount_0f7a4_18 : decode cJ6_bitCount_0f7a4 18 = .ok (.ldc_w 266, 3) := by decide +kernel
theorem dJ6_bitCount_0f7a4_21 : decode cJ6_bitCount_0f7a4 21 = .ok (.iand, 1) := by decide +kernel
theorem dJ6_bitCount_0f7a4_22 : decode cJ6_bitCount_0f7a4 22 = .ok (.iadd, 1) := by decide +kernel
theorem dJ6_bitCount_0f7a4_23 : decode cJ6_bitCount_0f7a4 23 = .ok (.istore_n 0, 1) := by decide +kernel
theorem dJ6_bitCount_0f7a4_24 : decode cJ6_bitCount_0f7a4 24 = .ok (.iload_n 0, 1) := by decide +kernel
theorem dJ6_bitCount_0f7a4_25 : decode cJ6_bitCount_0f7a4 25 = .ok (.iload_n 0, 1) := by decide +kernel
theorem dJ6_bitCount_0f7a4_26 : decode cJ6_bitCount_0f7a4 26 = .ok (.iconst 4, 1) := by decide +kernel
theorem dJ6_bitCount_0f7a4_27 : decode cJ6_bitCount_0f7a4 27 = .ok (.iushr, 1) := by decide +kernel
theorem dJ6_bitCount_0f7a4_28 : decode cJ6_bitCount_0f7a4 28 = .ok (.iadd, 1) := by decide +kernel
theorem dJ6_bitCount_0f7a4_29 : decode cJ6_bitCount_0f7a4 29 = .ok (.ldc_w 267, 3) := by decide +kernel
theorem dJ6_bitCount_0f7a4_32 : decode cJ6_bitCount_0f7a4 32 = .ok (.iand, 1) := by decide +kernel
theorem dJ6_bitCount_0f7a4_33 : decode cJ6_bitCount_0f7a4 33 = .ok (.istore_n 0, 1) := by decide +kernel
theorem dJ6_bitCount_0f7a4_34 : decode cJ6_bitCount_0f7a4 34 = .ok (.iload_n 0, 1) := by decide +kernel
theorem dJ6_bitCount_0f7a4_35 : decode cJ6_bitCount_0f7a4 35 = .ok (.iload_n 0, 1) := by decide +kernel
theorem dJ6_bitCount_0f7a4_36 : decode cJ6_bitCount_0f7a4 36 = .ok (.bipush 8, 2) := by decide +kernel
theorem dJ6_bitCount_0f7a4_38 : decode cJ6_bitCount_0f7a4 38 = .ok (.iushr, 1) := by decide +kernel
theorem dJ6_bitCount_0f7a4_39 : decode cJ6_bitCount_0f7a4 39 = .ok (.iadd, 1) := by decide +kernel
theorem dJ6_bitCount_0f7a4_40 : decode cJ6_bitCount_0f7a4 40 = .ok (.istore_n 0, 1) := by decide +kernel
theorem dJ6_bitCount_0f7a4_41 : decode cJ6_bitCount_0f7a4 41 = .ok (.iload_n 0, 1) := by decide +kernel
theorem dJ6_bitCount_0f7a4_42 : decode cJ6_bitCount_0f7a4 42 = .ok (.iload_n 0, 1) := by decide +kernel
theorem dJ6_bitCount_0f7a4_43 : decode cJ6_bitCount_0f7a4 43 = .ok (.bipush 16, 2) := by decide +kernel
theorem dJ6_bitCount_0f7a4_45 : decode cJ6_bitCount_0f7a4 45 = .ok (.iushr, 1) := by decide +kernel
theorem dJ6_bitCount_0f7a4_46 : decode cJ6_bitCount_0f7a4 46 = .ok (.iadd, 1) := by decide +kernel
theorem dJ6_bitCount_0f7a4_47 : decode cJ6_bitCount_0f7a4 47 = .ok (.istore_n 0, 1) := by decide +kernel
theorem dJ6_bitCount_0f7a4_48 : decode cJ6_bitCount_0f7a4 48 = .ok (.iload_n 0, 1) := by decide +kernel
theorem dJ6_bitCount_0f7a4_49 : decode cJ6_bitCount_0f7a4 49 = .ok (.bipush 63, 2) := by decide +kernel
theorem dJ6_bitCount_0f7a4_51 : decode cJ6_bitCount_0f7a4 51 = .ok (.iand, 1) := by decide +kernel
theorem dJ6_bitCount_0f7a4_52 : decode cJ6_bitCount_0f7a4 52 = .ok (.ireturn, 1) := by decide +kernel
theorem dJ9_max_7cf53_0 : decode cJ9_max_7cf53 0 = .ok (.iload_n 0, 1) := by decide +kernel
theorem dJ9_max_7cf53_1 : decode cJ9_max_7cf53 1 = .ok (.iload_n 1, 1) := by decide +kernel
theorem dJ9_max_7cf53_2 : decode cJ9_max_7cf53 2 = .ok (.if_icmp .lt 7, 3) := by decide +kernel
theorem dJ9_max_7cf53_5 : decode cJ9_max_7cf53 5 = .ok (.iload_n 0, 1) := by decide +kernel
theorem dJ9_max_7cf53_6 : decode cJ9_max_7cf53 6 = .ok (.goto 4, 3) := by decide +kernel
theorem dJ9_max_7cf53_9 : decode cJ9_max_7cf53 9 = .ok (.iload_n 1, 1) := by decide +kernel
theorem dJ9_max_7cf53_10 : decode cJ9_max_7cf53 10 = .ok (.ireturn, 1) := by decide +kernel
theorem dJ9_min_7cf53_0 : decode cJ9_min_7cf53 0 = .ok (.iload_n 0, 1) := by decide +kernel
theorem dJ9_min_7cf53_1 : decode cJ9_min_7cf53 1 = .ok (.iload_n 1, 1) := by decide +kernel
theorem dJ9_min_7cf53_2 : decode cJ9_min_7cf53 2 = .ok (.if_icmp .gt 7, 3) := by decide +kernel
theorem dJ9_min_7cf53_5 : decode cJ9_min_7cf53 5 = .ok (.iload_n 0, 1) := by decide +kernel
theorem dJ9_min_7cf53_6 : decode cJ9_min_7cf53 6 = .ok (.goto 4, 3) := by decide +kernel
theorem dJ9_min_7cf53_9 : decode cJ9_min_7cf53 9 = .ok (.iload_n 1, 1) := by decide +kernel
theorem dJ9_min_7cf53_10 : decode cJ9_min_7cf53 10 = .ok (.ireturn, 1) := by decide +kernel
theorem dJ0_length_8abf5_0 : decode cJ0_length_8abf5 0 = .ok (.aload_n 0, 1) := by decide +kernel
theorem dJ0_length_8abf5_1 : decode cJ0_length_8abf5 1 = .ok (.getfield 9, 3) := by decide +kernel
theorem dJ0_length_8abf5_4 : decode cJ0_length_8abf5 4 = .ok (.arraylength, 1) := by decide +kernel
theorem dJ0_length_8abf5_5 : decode cJ0_length_8abf5 5 = .ok (.aload_n 0, 1) := by decide +kernel
theorem dJ0_length_8abf5_6 : decode cJ0_length_8abf5 6 = .ok (.invokevirtual 335, 3) := by decide +kernel
theorem dJ0_length_8abf5_9 : decode cJ0_length_8abf5 9 = .ok (.ishr, 1) := by decide +kernel
theorem dJ0_length_8abf5_10 : decode cJ0_length_8abf5 10 = .ok (.ireturn, 1) := by decide +kernel
theorem dJ0_charAt_5068e_0 : decode cJ0_charAt_5068e 0 = .ok (.aload_n 0, 1) := by decide +kernel
theorem dJ0_charAt_5068e_1 : decode cJ0_charAt_5068e 1 = .ok (.invokevirtual 492, 3) := by decide +kernel
theorem dJ0_charAt_5068e_4 : decode cJ0_charAt_5068e 4 = .ok (.ifCond .eq 12, 3) := by decide +kernel
theorem dJ0_charAt_5068e_7 : decode cJ0_charAt_5068e 7 = .ok (.aload_n 0, 1) := by decide +kernel
theorem dJ0_charAt_5068e_8 : decode cJ0_charAt_5068e 8 = .ok (.getfield 9, 3) := by decide +kernel
theorem dJ0_charAt_5068e_11 : decode cJ0_charAt_5068e 11 = .ok (.iload_n 1, 1) := by decide +kernel
theorem dJ0_charAt_5068e_12 : decode cJ0_charAt_5068e 12 = .ok (.invokestatic 495, 3) := by decide +kernel
theorem dJ0_charAt_5068e_15 : decode cJ0_charAt_5068e 15 = .ok (.ireturn, 1) := by decide +kernel
theorem dJ0_charAt_5068e_16 : decode cJ0_charAt_5068e 16 = .ok (.aload_n 0, 1) := by decide +kernel
theorem dJ0_charAt_5068e_17 : decode cJ0_charAt_5068e 17 = .ok (.getfield 9, 3) := by decide +kernel
theorem dJ0_charAt_5068e_20 : decode cJ0_charAt_5068e 20 = .ok (.iload_n 1, 1) := by decide +kernel
theorem dJ0_charAt_5068e_21 : decode cJ0_charAt_5068e 21 = .ok (.invokestatic 498, 3) := by decide +kernel
theorem dJ0_charAt_5068e_24 : decode cJ0_charAt_5068e 24 = .ok (.ireturn, 1) := by decide +kernel
theorem dJ0_coder_7d493_0 : decode cJ0_coder_7d493 0 = .ok (.getstatic 38, 3) := by decide +kernel
theorem dJ0_coder_7d493_3 : decode cJ0_coder_7d493 3 = .ok (.ifCond .eq 10, 3) := by decide +kernel
theorem dJ0_coder_7d493_6 : decode cJ0_coder_7d493 6 = .ok (.aload_n 0, 1) := by decide +kernel
theorem dJ0_coder_7d493_7 : decode cJ0_coder_7d493 7 = .ok (.getfield 15, 3) := by decide +kernel
theorem dJ0_coder_7d493_10 : decode cJ0_coder_7d493 10 = .ok (.goto 4, 3) := by decide +kernel
theorem dJ0_coder_7d493_13 : decode cJ0_coder_7d493 13 = .ok (.iconst 1, 1) := by decide +kernel
theorem dJ0_coder_7d493_14 : decode cJ0_coder_7d493 14 = .ok (.ireturn, 1) := by decide +kernel
theorem dJ0_isLatin1_aae02_0 : decode cJ0_isLatin1_aae02 0 = .ok (.getstatic 38, 3) := by decide +kernel
theorem dJ0_isLatin1_aae02_3 : decode cJ0_isLatin1_aae02 3 = .ok (.ifCond .eq 14, 3) := by decide +kernel
theorem dJ0_isLatin1_aae02_6 : decode cJ0_isLatin1_aae02 6 = .ok (.aload_n 0, 1) := by decide +kernel
theorem dJ0_isLatin1_aae02_7 : decode cJ0_isLatin1_aae02 7 = .ok (.getfield 15, 3) := by decide +kernel
theorem dJ0_isLatin1_aae02_10 : decode cJ0_isLatin1_aae02 10 = .ok (.ifCond .ne 7, 3) := by decide +kernel
theorem dJ0_isLatin1_aae02_13 : decode cJ0_isLatin1_aae02 13 = .ok (.iconst 1, 1) := by decide +kernel
theorem dJ0_isLatin1_aae02_14 : decode cJ0_isLatin1_aae02 14 = .ok (.goto 4, 3) := by decide +kernel
theorem dJ0_isLatin1_aae02_17 : decode cJ0_isLatin1_aae02 17 = .ok (.iconst 0, 1) := by decide +kernel
theorem dJ0_isLatin1_aae02_18 : decode cJ0_isLatin1_aae02 18 = .ok (.ireturn, 1) := by decide +kernel
theorem dJ0_checkIndex_df160_0 : decode cJ0_checkIndex_df160 0 = .ok (.iload_n 0, 1) := by decide +kernel
theorem dJ0_checkIndex_df160_1 : decode cJ0_checkIndex_df160 1 = .ok (.iload_n 1, 1) := by decide +kernel
theorem dJ0_checkIndex_df160_2 : decode cJ0_checkIndex_df160 2 = .ok (.getstatic 1053, 3) := by decide +kernel
theorem dJ0_checkIndex_df160_5 : decode cJ0_checkIndex_df160 5 = .ok (.invokestatic 1059, 3) := by decide +kernel
theorem dJ0_checkIndex_df160_8 : decode cJ0_checkIndex_df160 8 = .ok (.pop, 1) := by decide +kernel
theorem dJ0_checkIndex_df160_9 : decode cJ0_checkIndex_df160 9 = .ok (.return_, 1) := by decide +kernel
theorem dJ1_charAt_3b067_0 : decode cJ1_charAt_3b067 0 = .ok (.iload_n 1, 1) := by decide +kernel
theorem dJ1_charAt_3b067_1 : decode cJ1_charAt_3b067 1 = .ok (.aload_n 0, 1) := by decide +kernel
theorem dJ1_charAt_3b067_2 : decode cJ1_charAt_3b067 2 = .ok (.arraylength, 1) := by decide +kernel
theorem dJ1_charAt_3b067_3 : decode cJ1_charAt_3b067 3 = .ok (.invokestatic 9, 3) := by decide +kernel
theorem dJ1_charAt_3b067_6 : decode cJ1_charAt_3b067 6 = .ok (.aload_n 0, 1) := by decide +kernel
theorem dJ1_charAt_3b067_7 : decode cJ1_charAt_3b067 7 = .ok (.iload_n 1, 1) := by decide +kernel
theorem dJ1_charAt_3b067_8 : decode cJ1_charAt_3b067 8 = .ok (.baload, 1) := by decide +kernel
theorem dJ1_charAt_3b067_9 : decode cJ1_charAt_3b067 9 = .ok (.sipush 255, 3) := by decide +kernel
theorem dJ1_charAt_3b067_12 : decode cJ1_charAt_3b067 12 = .ok (.iand, 1) := by decide +kernel
theorem dJ1_charAt_3b067_13 : decode cJ1_charAt_3b067 13 = .ok (.i2c, 1) := by decide +kernel
theorem dJ1_charAt_3b067_14 : decode cJ1_charAt_3b067 14 = .ok (.ireturn, 1) := by decide +kernel
theorem dJ2_getChar_3b067_0 : decode cJ2_getChar_3b067 0 = .ok (.getstatic 44, 3) := by decide +kernel
theorem dJ2_getChar_3b067_3 : decode cJ2_getChar_3b067 3 = .ok (.ifCond .ne 25, 3) := by decide +kernel
theorem dJ2_getChar_3b067_6 : decode cJ2_getChar_3b067 6 = .ok (.iload_n 1, 1) := by decide +kernel
theorem dJ2_getChar_3b067_7 : decode cJ2_getChar_3b067 7 = .ok (.ifCond .lt 11, 3) := by decide +kernel
theorem dJ2_getChar_3b067_10 : decode cJ2_getChar_3b067 10 = .ok (.iload_n 1, 1) := by decide +kernel
theorem dJ2_getChar_3b067_11 : decode cJ2_getChar_3b067 11 = .ok (.aload_n 0, 1) := by decide +kernel
theorem dJ2_getChar_3b067_12 : decode cJ2_getChar_3b067 12 = .ok (.invokestatic 48, 3) := by decide +kernel
theorem dJ2_getChar_3b067_15 : decode cJ2_getChar_3b067 15 = .ok (.if_icmp .lt 13, 3) := by decide +kernel
theorem dJ2_getChar_3b067_18 : decode cJ2_getChar_3b067 18 = .ok (.new 52, 3) := by decide +kernel
theorem dJ2_getChar_3b067_21 : decode cJ2_getChar_3b067 21 = .ok (.dup, 1) := by decide +kernel
theorem dJ2_getChar_3b067_22 : decode cJ2_getChar_3b067 22 = .ok (.ldc 54, 2) := by decide +kernel
theorem dJ2_getChar_3b067_24 : decode cJ2_getChar_3b067 24 = .ok (.invokespecial 56, 3) := by decide +kernel
theorem dJ2_getChar_3b067_27 : decode cJ2_getChar_3b067 27 = .ok (.athrow, 1) := by decide +kernel
theorem dJ2_getChar_3b067_28 : decode cJ2_getChar_3b067 28 = .ok (.iload_n 1, 1) := by decide +kernel
theorem dJ2_getChar_3b067_29 : decode cJ2_getChar_3b067 29 = .ok (.iconst 1, 1) := by decide +kernel
theorem dJ2_getChar_3b067_30 : decode cJ2_getChar_3b067 30 = .ok (.ishl, 1) := by decide +kernel
theorem dJ2_getChar_3b067_31 : decode cJ2_getChar_3b067 31 = .ok (.istore_n 1, 1) := by decide +kernel
theorem dJ2_getChar_3b067_32 : decode cJ2_getChar_3b067 32 = .ok (.aload_n 0, 1) := by decide +kernel
theorem dJ2_getChar_3b067_33 : decode cJ2_getChar_3b067 33 = .ok (.iload_n 1, 1) := by decide +kernel
theorem dJ2_getChar_3b067_34 : decode cJ2_getChar_3b067 34 = .ok (.iinc 1 1, 3) := by decide +kernel
theorem dJ2_getChar_3b067_37 : decode cJ2_getChar_3b067 37 = .ok (.baload, 1) := by decide +kernel
theorem dJ2_getChar_3b067_38 : decode cJ2_getChar_3b067 38 = .ok (.sipush 255, 3) := by decide +kernel
theorem dJ2_getChar_3b067_41 : decode cJ2_getChar_3b067 41 = .ok (.iand, 1) := by decide +kernel
theorem dJ2_getChar_3b067_42 : decode cJ2_getChar_3b067 42 = .ok (.getstatic 59, 3) := by decide +kernel
theorem dJ2_getChar_3b067_45 : decode cJ2_getChar_3b067 45 = .ok (.ishl, 1) := by decide +kernel
theorem dJ2_getChar_3b067_46 : decode cJ2_getChar_3b067 46 = .ok (.aload_n 0, 1) := by decide +kernel
theorem dJ2_getChar_3b067_47 : decode cJ2_getChar_3b067 47 = .ok (.iload_n 1, 1) := by decide +kernel
theorem dJ2_getChar_3b067_48 : decode cJ2_getChar_3b067 48 = .ok (.baload, 1) := by decide +kernel
theorem dJ2_getChar_3b067_49 : decode cJ2_getChar_3b067 49 = .ok (.sipush 255, 3) := by decide +kernel
theorem dJ2_getChar_3b067_52 : decode cJ2_getChar_3b067 52 = .ok (.iand, 1) := by decide +kernel
theorem dJ2_getChar_3b067_53 : decode cJ2_getChar_3b067 53 = .ok (.getstatic 63, 3) := by decide +kernel
theorem dJ2_getChar_3b067_56 : decode cJ2_getChar_3b067 56 = .ok (.ishl, 1) := by decide +kernel
theorem dJ2_getChar_3b067_57 : decode cJ2_getChar_3b067 57 = .ok (.ior, 1) := by decide +kernel
theorem dJ2_getChar_3b067_58 : decode cJ2_getChar_3b067 58 = .ok (.i2c, 1) := by decide +kernel
theorem dJ2_getChar_3b067_59 : decode cJ2_getChar_3b067 59 = .ok (.ireturn, 1) := by decide +kernel
theorem dJ2_length_9d52b_0 : decode cJ2_length_9d52b 0 = .ok (.aload_n 0, 1) := by decide +kernel
theorem dJ2_length_9d52b_1 : decode cJ2_length_9d52b 1 = .ok (.arraylength, 1) := by decide +kernel
theorem dJ2_length_9d52b_2 : decode cJ2_length_9d52b 2 = .ok (.iconst 1, 1) := by decide +kernel
theorem dJ2_length_9d52b_3 : decode cJ2_length_9d52b 3 = .ok (.ishr, 1) := by decide +kernel
theorem dJ2_length_9d52b_4 : decode cJ2_length_9d52b 4 = .ok (.ireturn, 1) := by decide +kernel
theorem dJ2_charAt_3b067_0 : decode cJ2_charAt_3b067 0 = .ok (.iload_n 1, 1) := by decide +kernel
theorem dJ2_charAt_3b067_1 : decode cJ2_charAt_3b067 1 = .ok (.aload_n 0, 1) := by decide +kernel
theorem dJ2_charAt_3b067_2 : decode cJ2_charAt_3b067 2 = .ok (.invokestatic 67, 3) := by decide +kernel
theorem dJ2_charAt_3b067_5 : decode cJ2_charAt_3b067 5 = .ok (.aload_n 0, 1) := by decide +kernel
theorem dJ2_charAt_3b067_6 : decode cJ2_charAt_3b067 6 = .ok (.iload_n 1, 1) := by decide +kernel
theorem dJ2_charAt_3b067_7 : decode cJ2_charAt_3b067 7 = .ok (.invokestatic 71, 3) := by decide +kernel
theorem dJ2_charAt_3b067_10 : decode cJ2_charAt_3b067 10 = .ok (.ireturn, 1) := by decide +kernel
theorem dJ2_checkIndex_2214a_0 : decode cJ2_checkIndex_2214a 0 = .ok (.iload_n 0, 1) := by decide +kernel
theorem dJ2_checkIndex_2214a_1 : decode cJ2_checkIndex_2214a 1 = .ok (.aload_n 1, 1) := by decide +kernel
theorem dJ2_checkIndex_2214a_2 : decode cJ2_checkIndex_2214a 2 = .ok (.invokestatic 48, 3) := by decide +kernel
theorem dJ2_checkIndex_2214a_5 : decode cJ2_checkIndex_2214a 5 = .ok (.invokestatic 414, 3) := by decide +kernel
theorem dJ2_checkIndex_2214a_8 : decode cJ2_checkIndex_2214a 8 = .ok (.return_, 1) := by decide +kernel
theorem dJ7_fill_d0a16_0 : decode cJ7_fill_d0a16 0 = .ok (.iconst 0, 1) := by decide +kernel
theorem dJ7_fill_d0a16_1 : decode cJ7_fill_d0a16 1 = .ok (.istore_n 3, 1) := by decide +kernel
theorem dJ7_fill_d0a16_2 : decode cJ7_fill_d0a16 2 = .ok (.aload_n 0, 1) := by decide +kernel
theorem dJ7_fill_d0a16_3 : decode cJ7_fill_d0a16 3 = .ok (.arraylength, 1) := by decide +kernel
theorem dJ7_fill_d0a16_4 : decode cJ7_fill_d0a16 4 = .ok (.istore 4, 2) := by decide +kernel
theorem dJ7_fill_d0a16_6 : decode cJ7_fill_d0a16 6 = .ok (.iload_n 3, 1) := by decide +kernel
theorem dJ7_fill_d0a16_7 : decode cJ7_fill_d0a16 7 = .ok (.iload 4, 2) := by decide +kernel
theorem dJ7_fill_d0a16_9 : decode cJ7_fill_d0a16 9 = .ok (.if_icmp .ge 13, 3) := by decide +kernel
theorem dJ7_fill_d0a16_12 : decode cJ7_fill_d0a16 12 = .ok (.aload_n 0, 1) := by decide +kernel
theorem dJ7_fill_d0a16_13 : decode cJ7_fill_d0a16 13 = .ok (.iload_n 3, 1) := by decide +kernel
theorem dJ7_fill_d0a16_14 : decode cJ7_fill_d0a16 14 = .ok (.lload_n 1, 1) := by decide +kernel
theorem dJ7_fill_d0a16_15 : decode cJ7_fill_d0a16 15 = .ok (.lastore, 1) := by decide +kernel
theorem dJ7_fill_d0a16_16 : decode cJ7_fill_d0a16 16 = .ok (.iinc 3 1, 3) := by decide +kernel
theorem dJ7_fill_d0a16_19 : decode cJ7_fill_d0a16 19 = .ok (.goto (-13), 3) := by decide +kernel
theorem dJ7_fill_d0a16_22 : decode cJ7_fill_d0a16 22 = .ok (.return_, 1) := by decide +kernel
theorem dJ7_fill_53178_0 : decode cJ7_fill_53178 0 = .ok (.iconst 0, 1) := by decide +kernel
theorem dJ7_fill_53178_1 : decode cJ7_fill_53178 1 = .ok (.istore_n 2, 1) := by decide +kernel
theorem dJ7_fill_53178_2 : decode cJ7_fill_53178 2 = .ok (.aload_n 0, 1) := by decide +kernel
theorem dJ7_fill_53178_3 : decode cJ7_fill_53178 3 = .ok (.arraylength, 1) := by decide +kernel
theorem dJ7_fill_53178_4 : decode cJ7_fill_53178 4 = .ok (.istore_n 3, 1) := by decide +kernel
theorem dJ7_fill_53178_5 : decode cJ7_fill_53178 5 = .ok (.iload_n 2, 1) := by decide +kernel
theorem dJ7_fill_53178_6 : decode cJ7_fill_53178 6 = .ok (.iload_n 3, 1) := by decide +kernel
theorem dJ7_fill_53178_7 : decode cJ7_fill_53178 7 = .ok (.if_icmp .ge 13, 3) := by decide +kernel
theorem dJ7_fill_53178_10 : decode cJ7_fill_53178 10 = .ok (.aload_n 0, 1) := by decide +kernel
theorem dJ7_fill_53178_11 : decode cJ7_fill_53178 11 = .ok (.iload_n 2, 1) := by decide +kernel
theorem dJ7_fill_53178_12 : decode cJ7_fill_53178 12 = .ok (.iload_n 1, 1) := by decide +kernel
theorem dJ7_fill_53178_13 : decode cJ7_fill_53178 13 = .ok (.iastore, 1) := by decide +kernel
theorem dJ7_fill_53178_14 : decode cJ7_fill_53178 14 = .ok (.iinc 2 1, 3) := by decide +kernel
theorem dJ7_fill_53178_17 : decode cJ7_fill_53178 17 = .ok (.goto (-12), 3) := by decide +kernel
theorem dJ7_fill_53178_20 : decode cJ7_fill_53178 20 = .ok (.return_, 1) := by decide +kernel
theorem dJ3_checkIndex_8e157_0 : decode cJ3_checkIndex_8e157 0 = .ok (.iload_n 0, 1) := by decide +kernel
theorem dJ3_checkIndex_8e157_1 : decode cJ3_checkIndex_8e157 1 = .ok (.ifCond .lt 8, 3) := by decide +kernel
theorem dJ3_checkIndex_8e157_4 : decode cJ3_checkIndex_8e157 4 = .ok (.iload_n 0, 1) := by decide +kernel
theorem dJ3_checkIndex_8e157_5 : decode cJ3_checkIndex_8e157 5 = .ok (.iload_n 1, 1) := by decide +kernel
theorem dJ3_checkIndex_8e157_6 : decode cJ3_checkIndex_8e157 6 = .ok (.if_icmp .lt 10, 3) := by decide +kernel
theorem dJ3_checkIndex_8e157_9 : decode cJ3_checkIndex_8e157 9 = .ok (.aload_n 2, 1) := by decide +kernel
theorem dJ3_checkIndex_8e157_10 : decode cJ3_checkIndex_8e157 10 = .ok (.iload_n 0, 1) := by decide +kernel
theorem dJ3_checkIndex_8e157_11 : decode cJ3_checkIndex_8e157 11 = .ok (.iload_n 1, 1) := by decide +kernel
theorem dJ3_checkIndex_8e157_12 : decode cJ3_checkIndex_8e157 12 = .ok (.invokestatic 95, 3) := by decide +kernel
theorem dJ3_checkIndex_8e157_15 : decode cJ3_checkIndex_8e157 15 = .ok (.athrow, 1) := by decide +kernel
theorem dJ3_checkIndex_8e157_16 : decode cJ3_checkIndex_8e157 16 = .ok (.iload_n 0, 1) := by decide +kernel
theorem dJ3_checkIndex_8e157_17 : decode cJ3_checkIndex_8e157 17 = .ok (.ireturn, 1) := by decide +kernel
theorem dL_law_0 : decode cL_law 0 = .ok (.new 7, 3) := by decide +kernel
theorem dL_law_3 : decode cL_law 3 = .ok (.dup, 1) := by decide +kernel
theorem dL_law_4 : decode cL_law 4 = .ok (.invokespecial 9, 3) := by decide +kernel
theorem dL_law_7 : decode cL_law 7 = .ok (.astore_n 1, 1) := by decide +kernel
theorem dL_law_8 : decode cL_law 8 = .ok (.new 10, 3) := by decide +kernel
theorem dL_law_11 : decode cL_law 11 = .ok (.dup, 1) := by decide +kernel
theorem dL_law_12 : decode cL_law 12 = .ok (.invokespecial 12, 3) := by decide +kernel
theorem dL_law_15 : decode cL_law 15 = .ok (.astore_n 2, 1) := by decide +kernel
theorem dL_law_16 : decode cL_law 16 = .ok (.iconst 0, 1) := by decide +kernel
theorem dL_law_17 : decode cL_law 17 = .ok (.istore_n 3, 1) := by decide +kernel
theorem dL_law_18 : decode cL_law 18 = .ok (.iload_n 3, 1) := by decide +kernel
theorem dL_law_19 : decode cL_law 19 = .ok (.aload_n 0, 1) := by decide +kernel
theorem dL_law_20 : decode cL_law 20 = .ok (.arraylength, 1) := by decide +kernel
theorem dL_law_21 : decode cL_law 21 = .ok (.iconst 5, 1) := by decide +kernel
theorem dL_law_22 : decode cL_law 22 = .ok (.isub, 1) := by decide +kernel
theorem dL_law_23 : decode cL_law 23 = .ok (.if_icmp .gt 802, 3) := by decide +kernel
theorem dL_law_26 : decode cL_law 26 = .ok (.aload_n 0, 1) := by decide +kernel
theorem dL_law_27 : decode cL_law 27 = .ok (.iload_n 3, 1) := by decide +kernel
theorem dL_law_28 : decode cL_law 28 = .ok (.iaload, 1) := by decide +kernel
theorem dL_law_29 : decode cL_law 29 = .ok (.bipush 31, 2) := by decide +kernel
theorem dL_law_31 : decode cL_law 31 = .ok (.iand, 1) := by decide +kernel
theorem dL_law_32 : decode cL_law 32 = .ok (.tableswitch 787 0 24 #[116, 139, 152, 165, 178, 211, 234, 257, 280, 329, 342, 385, 408, 441, 474, 507, 550, 583, 596, 609, 642, 695, 738, 751, 764], 116) := by decide +kernel
theorem dL_law_148 : decode cL_law 148 = .ok (.aload_n 1, 1) := by decide +kernel
theorem dL_law_149 : decode cL_law 149 = .ok (.aload_n 0, 1) := by decide +kernel
theorem dL_law_150 : decode cL_law 150 = .ok (.iload_n 3, 1) := by decide +kernel
theorem dL_law_151 : decode cL_law 151 = .ok (.iconst 1, 1) := by decide +kernel
theorem dL_law_152 : decode cL_law 152 = .ok (.iadd, 1) := by decide +kernel
theorem dL_law_153 : decode cL_law 153 = .ok (.iaload, 1) := by decide +kernel
theorem dL_law_154 : decode cL_law 154 = .ok (.invokevirtual 13, 3) := by decide +kernel
theorem dL_law_157 : decode cL_law 157 = .ok (.aload_n 2, 1) := by decide +kernel
theorem dL_law_158 : decode cL_law 158 = .ok (.aload_n 0, 1) := by decide +kernel
theorem dL_law_159 : decode cL_law 159 = .ok (.iload_n 3, 1) := by decide +kernel
theorem dL_law_160 : decode cL_law 160 = .ok (.iconst 1, 1) := by decide +kernel
theorem dL_law_161 : decode cL_law 161 = .ok (.iadd, 1) := by decide +kernel
theorem dL_law_162 : decode cL_law 162 = .ok (.iaload, 1) := by decide +kernel
theorem dL_law_163 : decode cL_law 163 = .ok (.invokevirtual 17, 3) := by decide +kernel
theorem dL_law_166 : decode cL_law 166 = .ok (.if_icmp .eq 653, 3) := by decide +kernel
theorem dL_law_169 : decode cL_law 169 = .ok (.iconst 0, 1) := by decide +kernel
theorem dL_law_170 : decode cL_law 170 = .ok (.ireturn, 1) := by decide +kernel
theorem dL_law_171 : decode cL_law 171 = .ok (.aload_n 1, 1) := by decide +kernel
theorem dL_law_172 : decode cL_law 172 = .ok (.invokevirtual 18, 3) := by decide +kernel
theorem dL_law_175 : decode cL_law 175 = .ok (.aload_n 2, 1) := by decide +kernel
theorem dL_law_176 : decode cL_law 176 = .ok (.invokevirtual 22, 3) := by decide +kernel
theorem dL_law_179 : decode cL_law 179 = .ok (.if_icmp .eq 640, 3) := by decide +kernel
theorem dL_law_182 : decode cL_law 182 = .ok (.iconst 0, 1) := by decide +kernel
theorem dL_law_183 : decode cL_law 183 = .ok (.ireturn, 1) := by decide +kernel
theorem dL_law_184 : decode cL_law 184 = .ok (.aload_n 1, 1) := by decide +kernel
theorem dL_law_185 : decode cL_law 185 = .ok (.invokevirtual 23, 3) := by decide +kernel
theorem dL_law_188 : decode cL_law 188 = .ok (.aload_n 2, 1) := by decide +kernel
theorem dL_law_189 : decode cL_law 189 = .ok (.invokevirtual 26, 3) := by decide +kernel
theorem dL_law_192 : decode cL_law 192 = .ok (.if_icmp .eq 627, 3) := by decide +kernel
theorem dL_law_195 : decode cL_law 195 = .ok (.iconst 0, 1) := by decide +kernel
theorem dL_law_196 : decode cL_law 196 = .ok (.ireturn, 1) := by decide +kernel
theorem dL_law_197 : decode cL_law 197 = .ok (.aload_n 1, 1) := by decide +kernel
theorem dL_law_198 : decode cL_law 198 = .ok (.invokevirtual 27, 3) := by decide +kernel
theorem dL_law_201 : decode cL_law 201 = .ok (.aload_n 2, 1) := by decide +kernel
theorem dL_law_202 : decode cL_law 202 = .ok (.invokevirtual 30, 3) := by decide +kernel
theorem dL_law_205 : decode cL_law 205 = .ok (.if_icmp .eq 614, 3) := by decide +kernel
theorem dL_law_208 : decode cL_law 208 = .ok (.iconst 0, 1) := by decide +kernel
theorem dL_law_209 : decode cL_law 209 = .ok (.ireturn, 1) := by decide +kernel
theorem dL_law_210 : decode cL_law 210 = .ok (.aload_n 1, 1) := by decide +kernel
theorem dL_law_211 : decode cL_law 211 = .ok (.aload_n 0, 1) := by decide +kernel
theorem dL_law_212 : decode cL_law 212 = .ok (.iload_n 3, 1) := by decide +kernel
theorem dL_law_213 : decode cL_law 213 = .ok (.iconst 1, 1) := by decide +kernel
theorem dL_law_214 : decode cL_law 214 = .ok (.iadd, 1) := by decide +kernel
theorem dL_law_215 : decode cL_law 215 = .ok (.iaload, 1) := by decide +kernel
theorem dL_law_216 : decode cL_law 216 = .ok (.aload_n 0, 1) := by decide +kernel
theorem dL_law_217 : decode cL_law 217 = .ok (.iload_n 3, 1) := by decide +kernel
theorem dL_law_218 : decode cL_law 218 = .ok (.iconst 2, 1) := by decide +kernel
theorem dL_law_219 : decode cL_law 219 = .ok (.iadd, 1) := by decide +kernel
theorem dL_law_220 : decode cL_law 220 = .ok (.iaload, 1) := by decide +kernel
theorem dL_law_221 : decode cL_law 221 = .ok (.invokevirtual 31, 3) := by decide +kernel
theorem dL_law_224 : decode cL_law 224 = .ok (.aload_n 2, 1) := by decide +kernel
theorem dL_law_225 : decode cL_law 225 = .ok (.aload_n 0, 1) := by decide +kernel
theorem dL_law_226 : decode cL_law 226 = .ok (.iload_n 3, 1) := by decide +kernel
theorem dL_law_227 : decode cL_law 227 = .ok (.iconst 1, 1) := by decide +kernel
theorem dL_law_228 : decode cL_law 228 = .ok (.iadd, 1) := by decide +kernel
theorem dL_law_229 : decode cL_law 229 = .ok (.iaload, 1) := by decide +kernel
theorem dL_law_230 : decode cL_law 230 = .ok (.aload_n 0, 1) := by decide +kernel
theorem dL_law_231 : decode cL_law 231 = .ok (.iload_n 3, 1) := by decide +kernel
theorem dL_law_232 : decode cL_law 232 = .ok (.iconst 2, 1) := by decide +kernel
theorem dL_law_233 : decode cL_law 233 = .ok (.iadd, 1) := by decide +kernel
theorem dL_law_234 : decode cL_law 234 = .ok (.iaload, 1) := by decide +kernel
theorem dL_law_235 : decode cL_law 235 = .ok (.invokevirtual 35, 3) := by decide +kernel
theorem dL_law_238 : decode cL_law 238 = .ok (.if_icmp .eq 581, 3) := by decide +kernel
theorem dL_law_241 : decode cL_law 241 = .ok (.iconst 0, 1) := by decide +kernel
theorem dL_law_242 : decode cL_law 242 = .ok (.ireturn, 1) := by decide +kernel
theorem dL_law_243 : decode cL_law 243 = .ok (.aload_n 1, 1) := by decide +kernel
theorem dL_law_244 : decode cL_law 244 = .ok (.aload_n 0, 1) := by decide +kernel
theorem dL_law_245 : decode cL_law 245 = .ok (.iload_n 3, 1) := by decide +kernel
theorem dL_law_246 : decode cL_law 246 = .ok (.iconst 1, 1) := by decide +kernel
theorem dL_law_247 : decode cL_law 247 = .ok (.iadd, 1) := by decide +kernel
theorem dL_law_248 : decode cL_law 248 = .ok (.iaload, 1) := by decide +kernel
theorem dL_law_249 : decode cL_law 249 = .ok (.invokevirtual 36, 3) := by decide +kernel
theorem dL_law_252 : decode cL_law 252 = .ok (.aload_n 2, 1) := by decide +kernel
theorem dL_law_253 : decode cL_law 253 = .ok (.aload_n 0, 1) := by decide +kernel
theorem dL_law_254 : decode cL_law 254 = .ok (.iload_n 3, 1) := by decide +kernel
theorem dL_law_255 : decode cL_law 255 = .ok (.iconst 1, 1) := by decide +kernel
theorem dL_law_256 : decode cL_law 256 = .ok (.iadd, 1) := by decide +kernel
theorem dL_law_257 : decode cL_law 257 = .ok (.iaload, 1) := by decide +kernel
theorem dL_law_258 : decode cL_law 258 = .ok (.invokevirtual 39, 3) := by decide +kernel
theorem dL_law_261 : decode cL_law 261 = .ok (.if_icmp .eq 558, 3) := by decide +kernel
theorem dL_law_264 : decode cL_law 264 = .ok (.iconst 0, 1) := by decide +kernel
theorem dL_law_265 : decode cL_law 265 = .ok (.ireturn, 1) := by decide +kernel
theorem dL_law_266 : decode cL_law 266 = .ok (.aload_n 1, 1) := by decide +kernel
theorem dL_law_267 : decode cL_law 267 = .ok (.aload_n 0, 1) := by decide +kernel
theorem dL_law_268 : decode cL_law 268 = .ok (.iload_n 3, 1) := by decide +kernel
theorem dL_law_269 : decode cL_law 269 = .ok (.iconst 1, 1) := by decide +kernel
theorem dL_law_270 : decode cL_law 270 = .ok (.iadd, 1) := by decide +kernel
theorem dL_law_271 : decode cL_law 271 = .ok (.iaload, 1) := by decide +kernel
theorem dL_law_272 : decode cL_law 272 = .ok (.invokevirtual 40, 3) := by decide +kernel
theorem dL_law_275 : decode cL_law 275 = .ok (.aload_n 2, 1) := by decide +kernel
theorem dL_law_276 : decode cL_law 276 = .ok (.aload_n 0, 1) := by decide +kernel
theorem dL_law_277 : decode cL_law 277 = .ok (.iload_n 3, 1) := by decide +kernel
theorem dL_law_278 : decode cL_law 278 = .ok (.iconst 1, 1) := by decide +kernel
theorem dL_law_279 : decode cL_law 279 = .ok (.iadd, 1) := by decide +kernel
theorem dL_law_280 : decode cL_law 280 = .ok (.iaload, 1) := by decide +kernel
theorem dL_law_281 : decode cL_law 281 = .ok (.invokevirtual 43, 3) := by decide +kernel
theorem dL_law_284 : decode cL_law 284 = .ok (.if_icmp .eq 535, 3) := by decide +kernel
theorem dL_law_287 : decode cL_law 287 = .ok (.iconst 0, 1) := by decide +kernel
theorem dL_law_288 : decode cL_law 288 = .ok (.ireturn, 1) := by decide +kernel
theorem dL_law_289 : decode cL_law 289 = .ok (.aload_n 1, 1) := by decide +kernel
theorem dL_law_290 : decode cL_law 290 = .ok (.aload_n 0, 1) := by decide +kernel
theorem dL_law_291 : decode cL_law 291 = .ok (.iload_n 3, 1) := by decide +kernel
theorem dL_law_292 : decode cL_law 292 = .ok (.iconst 1, 1) := by decide +kernel
theorem dL_law_293 : decode cL_law 293 = .ok (.iadd, 1) := by decide +kernel
theorem dL_law_294 : decode cL_law 294 = .ok (.iaload, 1) := by decide +kernel
theorem dL_law_295 : decode cL_law 295 = .ok (.invokevirtual 44, 3) := by decide +kernel
theorem dL_law_298 : decode cL_law 298 = .ok (.aload_n 2, 1) := by decide +kernel
theorem dL_law_299 : decode cL_law 299 = .ok (.aload_n 0, 1) := by decide +kernel
theorem dL_law_300 : decode cL_law 300 = .ok (.iload_n 3, 1) := by decide +kernel
theorem dL_law_301 : decode cL_law 301 = .ok (.iconst 1, 1) := by decide +kernel
theorem dL_law_302 : decode cL_law 302 = .ok (.iadd, 1) := by decide +kernel
theorem dL_law_303 : decode cL_law 303 = .ok (.iaload, 1) := by decide +kernel
theorem dL_law_304 : decode cL_law 304 = .ok (.invokevirtual 47, 3) := by decide +kernel
theorem dL_law_307 : decode cL_law 307 = .ok (.if_icmp .eq 512, 3) := by decide +kernel
theorem dL_law_310 : decode cL_law 310 = .ok (.iconst 0, 1) := by decide +kernel
theorem dL_law_311 : decode cL_law 311 = .ok (.ireturn, 1) := by decide +kernel
theorem dL_law_312 : decode cL_law 312 = .ok (.aload_n 1, 1) := by decide +kernel
theorem dL_law_313 : decode cL_law 313 = .ok (.aload_n 0, 1) := by decide +kernel
theorem dL_law_314 : decode cL_law 314 = .ok (.iload_n 3, 1) := by decide +kernel
theorem dL_law_315 : decode cL_law 315 = .ok (.iconst 1, 1) := by decide +kernel
theorem dL_law_316 : decode cL_law 316 = .ok (.iadd, 1) := by decide +kernel
theorem dL_law_317 : decode cL_law 317 = .ok (.iaload, 1) := by decide +kernel
theorem dL_law_318 : decode cL_law 318 = .ok (.aload_n 0, 1) := by decide +kernel
theorem dL_law_319 : decode cL_law 319 = .ok (.iload_n 3, 1) := by decide +kernel
theorem dL_law_320 : decode cL_law 320 = .ok (.iconst 2, 1) := by decide +kernel
theorem dL_law_321 : decode cL_law 321 = .ok (.iadd, 1) := by decide +kernel
theorem dL_law_322 : decode cL_law 322 = .ok (.iaload, 1) := by decide +kernel
theorem dL_law_323 : decode cL_law 323 = .ok (.ifCond .eq 7, 3) := by decide +kernel
theorem dL_law_326 : decode cL_law 326 = .ok (.iconst 1, 1) := by decide +kernel
theorem dL_law_327 : decode cL_law 327 = .ok (.goto 4, 3) := by decide +kernel
theorem dL_law_330 : decode cL_law 330 = .ok (.iconst 0, 1) := by decide +kernel
theorem dL_law_331 : decode cL_law 331 = .ok (.invokevirtual 48, 3) := by decide +kernel
theorem dL_law_334 : decode cL_law 334 = .ok (.aload_n 2, 1) := by decide +kernel
theorem dL_law_335 : decode cL_law 335 = .ok (.aload_n 0, 1) := by decide +kernel
theorem dL_law_336 : decode cL_law 336 = .ok (.iload_n 3, 1) := by decide +kernel
theorem dL_law_337 : decode cL_law 337 = .ok (.iconst 1, 1) := by decide +kernel
theorem dL_law_338 : decode cL_law 338 = .ok (.iadd, 1) := by decide +kernel
theorem dL_law_339 : decode cL_law 339 = .ok (.iaload, 1) := by decide +kernel
theorem dL_law_340 : decode cL_law 340 = .ok (.aload_n 0, 1) := by decide +kernel
theorem dL_law_341 : decode cL_law 341 = .ok (.iload_n 3, 1) := by decide +kernel
theorem dL_law_342 : decode cL_law 342 = .ok (.iconst 2, 1) := by decide +kernel
theorem dL_law_343 : decode cL_law 343 = .ok (.iadd, 1) := by decide +kernel
theorem dL_law_344 : decode cL_law 344 = .ok (.iaload, 1) := by decide +kernel
theorem dL_law_345 : decode cL_law 345 = .ok (.ifCond .eq 7, 3) := by decide +kernel
theorem dL_law_348 : decode cL_law 348 = .ok (.iconst 1, 1) := by decide +kernel
theorem dL_law_349 : decode cL_law 349 = .ok (.goto 4, 3) := by decide +kernel
theorem dL_law_352 : decode cL_law 352 = .ok (.iconst 0, 1) := by decide +kernel
theorem dL_law_353 : decode cL_law 353 = .ok (.invokevirtual 52, 3) := by decide +kernel
theorem dL_law_356 : decode cL_law 356 = .ok (.if_icmp .eq 463, 3) := by decide +kernel
theorem dL_law_359 : decode cL_law 359 = .ok (.iconst 0, 1) := by decide +kernel
theorem dL_law_360 : decode cL_law 360 = .ok (.ireturn, 1) := by decide +kernel
theorem dL_law_361 : decode cL_law 361 = .ok (.aload_n 1, 1) := by decide +kernel
theorem dL_law_362 : decode cL_law 362 = .ok (.invokevirtual 53, 3) := by decide +kernel
theorem dL_law_365 : decode cL_law 365 = .ok (.aload_n 2, 1) := by decide +kernel
theorem dL_law_366 : decode cL_law 366 = .ok (.invokevirtual 56, 3) := by decide +kernel
theorem dL_law_369 : decode cL_law 369 = .ok (.if_icmp .eq 450, 3) := by decide +kernel
theorem dL_law_372 : decode cL_law 372 = .ok (.iconst 0, 1) := by decide +kernel
theorem dL_law_373 : decode cL_law 373 = .ok (.ireturn, 1) := by decide +kernel
theorem dL_law_374 : decode cL_law 374 = .ok (.aload_n 1, 1) := by decide +kernel
theorem dL_law_375 : decode cL_law 375 = .ok (.aload_n 0, 1) := by decide +kernel
theorem dL_law_376 : decode cL_law 376 = .ok (.iload_n 3, 1) := by decide +kernel
theorem dL_law_377 : decode cL_law 377 = .ok (.iconst 1, 1) := by decide +kernel
theorem dL_law_378 : decode cL_law 378 = .ok (.iadd, 1) := by decide +kernel
theorem dL_law_379 : decode cL_law 379 = .ok (.iaload, 1) := by decide +kernel
theorem dL_law_380 : decode cL_law 380 = .ok (.aload_n 0, 1) := by decide +kernel
theorem dL_law_381 : decode cL_law 381 = .ok (.iload_n 3, 1) := by decide +kernel
theorem dL_law_382 : decode cL_law 382 = .ok (.iconst 2, 1) := by decide +kernel
theorem dL_law_383 : decode cL_law 383 = .ok (.iadd, 1) := by decide +kernel
theorem dL_law_384 : decode cL_law 384 = .ok (.iaload, 1) := by decide +kernel
theorem dL_law_385 : decode cL_law 385 = .ok (.aload_n 0, 1) := by decide +kernel
theorem dL_law_386 : decode cL_law 386 = .ok (.iload_n 3, 1) := by decide +kernel
theorem dL_law_387 : decode cL_law 387 = .ok (.iconst 3, 1) := by decide +kernel
theorem dL_law_388 : decode cL_law 388 = .ok (.iadd, 1) := by decide +kernel
theorem dL_law_389 : decode cL_law 389 = .ok (.iaload, 1) := by decide +kernel
theorem dL_law_390 : decode cL_law 390 = .ok (.invokevirtual 57, 3) := by decide +kernel
theorem dL_law_393 : decode cL_law 393 = .ok (.aload_n 2, 1) := by decide +kernel
theorem dL_law_394 : decode cL_law 394 = .ok (.aload_n 0, 1) := by decide +kernel
theorem dL_law_395 : decode cL_law 395 = .ok (.iload_n 3, 1) := by decide +kernel
theorem dL_law_396 : decode cL_law 396 = .ok (.iconst 1, 1) := by decide +kernel
theorem dL_law_397 : decode cL_law 397 = .ok (.iadd, 1) := by decide +kernel
theorem dL_law_398 : decode cL_law 398 = .ok (.iaload, 1) := by decide +kernel
theorem dL_law_399 : decode cL_law 399 = .ok (.aload_n 0, 1) := by decide +kernel
theorem dL_law_400 : decode cL_law 400 = .ok (.iload_n 3, 1) := by decide +kernel
theorem dL_law_401 : decode cL_law 401 = .ok (.iconst 2, 1) := by decide +kernel
theorem dL_law_402 : decode cL_law 402 = .ok (.iadd, 1) := by decide +kernel
theorem dL_law_403 : decode cL_law 403 = .ok (.iaload, 1) := by decide +kernel
theorem dL_law_404 : decode cL_law 404 = .ok (.aload_n 0, 1) := by decide +kernel
theorem dL_law_405 : decode cL_law 405 = .ok (.iload_n 3, 1) := by decide +kernel
theorem dL_law_406 : decode cL_law 406 = .ok (.iconst 3, 1) := by decide +kernel
theorem dL_law_407 : decode cL_law 407 = .ok (.iadd, 1) := by decide +kernel
theorem dL_law_408 : decode cL_law 408 = .ok (.iaload, 1) := by decide +kernel
theorem dL_law_409 : decode cL_law 409 = .ok (.invokevirtual 61, 3) := by decide +kernel
theorem dL_law_412 : decode cL_law 412 = .ok (.if_icmp .eq 407, 3) := by decide +kernel
theorem dL_law_415 : decode cL_law 415 = .ok (.iconst 0, 1) := by decide +kernel
theorem dL_law_416 : decode cL_law 416 = .ok (.ireturn, 1) := by decide +kernel
theorem dL_law_417 : decode cL_law 417 = .ok (.aload_n 1, 1) := by decide +kernel
theorem dL_law_418 : decode cL_law 418 = .ok (.aload_n 0, 1) := by decide +kernel
theorem dL_law_419 : decode cL_law 419 = .ok (.iload_n 3, 1) := by decide +kernel
theorem dL_law_420 : decode cL_law 420 = .ok (.iconst 1, 1) := by decide +kernel
theorem dL_law_421 : decode cL_law 421 = .ok (.iadd, 1) := by decide +kernel
theorem dL_law_422 : decode cL_law 422 = .ok (.iaload, 1) := by decide +kernel
theorem dL_law_423 : decode cL_law 423 = .ok (.invokevirtual 62, 3) := by decide +kernel
theorem dL_law_426 : decode cL_law 426 = .ok (.aload_n 2, 1) := by decide +kernel
theorem dL_law_427 : decode cL_law 427 = .ok (.aload_n 0, 1) := by decide +kernel
theorem dL_law_428 : decode cL_law 428 = .ok (.iload_n 3, 1) := by decide +kernel
theorem dL_law_429 : decode cL_law 429 = .ok (.iconst 1, 1) := by decide +kernel
theorem dL_law_430 : decode cL_law 430 = .ok (.iadd, 1) := by decide +kernel
theorem dL_law_431 : decode cL_law 431 = .ok (.iaload, 1) := by decide +kernel
theorem dL_law_432 : decode cL_law 432 = .ok (.invokevirtual 65, 3) := by decide +kernel
theorem dL_law_435 : decode cL_law 435 = .ok (.if_icmp .eq 384, 3) := by decide +kernel
theorem dL_law_438 : decode cL_law 438 = .ok (.iconst 0, 1) := by decide +kernel
theorem dL_law_439 : decode cL_law 439 = .ok (.ireturn, 1) := by decide +kernel
theorem dL_law_440 : decode cL_law 440 = .ok (.aload_n 1, 1) := by decide +kernel
theorem dL_law_441 : decode cL_law 441 = .ok (.aload_n 0, 1) := by decide +kernel
theorem dL_law_442 : decode cL_law 442 = .ok (.iload_n 3, 1) := by decide +kernel
theorem dL_law_443 : decode cL_law 443 = .ok (.iconst 1, 1) := by decide +kernel
theorem dL_law_444 : decode cL_law 444 = .ok (.iadd, 1) := by decide +kernel
theorem dL_law_445 : decode cL_law 445 = .ok (.iaload, 1) := by decide +kernel
theorem dL_law_446 : decode cL_law 446 = .ok (.aload_n 0, 1) := by decide +kernel
theorem dL_law_447 : decode cL_law 447 = .ok (.iload_n 3, 1) := by decide +kernel
theorem dL_law_448 : decode cL_law 448 = .ok (.iconst 2, 1) := by decide +kernel
theorem dL_law_449 : decode cL_law 449 = .ok (.iadd, 1) := by decide +kernel
theorem dL_law_450 : decode cL_law 450 = .ok (.iaload, 1) := by decide +kernel
theorem dL_law_451 : decode cL_law 451 = .ok (.invokevirtual 66, 3) := by decide +kernel
theorem dL_law_454 : decode cL_law 454 = .ok (.aload_n 2, 1) := by decide +kernel
theorem dL_law_455 : decode cL_law 455 = .ok (.aload_n 0, 1) := by decide +kernel
theorem dL_law_456 : decode cL_law 456 = .ok (.iload_n 3, 1) := by decide +kernel
theorem dL_law_457 : decode cL_law 457 = .ok (.iconst 1, 1) := by decide +kernel
theorem dL_law_458 : decode cL_law 458 = .ok (.iadd, 1) := by decide +kernel
theorem dL_law_459 : decode cL_law 459 = .ok (.iaload, 1) := by decide +kernel
theorem dL_law_460 : decode cL_law 460 = .ok (.aload_n 0, 1) := by decide +kernel
theorem dL_law_461 : decode cL_law 461 = .ok (.iload_n 3, 1) := by decide +kernel
theorem dL_law_462 : decode cL_law 462 = .ok (.iconst 2, 1) := by decide +kernel
theorem dL_law_463 : decode cL_law 463 = .ok (.iadd, 1) := by decide +kernel
theorem dL_law_464 : decode cL_law 464 = .ok (.iaload, 1) := by decide +kernel
theorem dL_law_465 : decode cL_law 465 = .ok (.invokevirtual 69, 3) := by decide +kernel
theorem dL_law_468 : decode cL_law 468 = .ok (.if_icmp .eq 351, 3) := by decide +kernel
theorem dL_law_471 : decode cL_law 471 = .ok (.iconst 0, 1) := by decide +kernel
theorem dL_law_472 : decode cL_law 472 = .ok (.ireturn, 1) := by decide +kernel
theorem dL_law_473 : decode cL_law 473 = .ok (.aload_n 1, 1) := by decide +kernel
theorem dL_law_474 : decode cL_law 474 = .ok (.aload_n 0, 1) := by decide +kernel
theorem dL_law_475 : decode cL_law 475 = .ok (.iload_n 3, 1) := by decide +kernel
theorem dL_law_476 : decode cL_law 476 = .ok (.iconst 1, 1) := by decide +kernel
theorem dL_law_477 : decode cL_law 477 = .ok (.iadd, 1) := by decide +kernel
theorem dL_law_478 : decode cL_law 478 = .ok (.iaload, 1) := by decide +kernel
theorem dL_law_479 : decode cL_law 479 = .ok (.aload_n 0, 1) := by decide +kernel
theorem dL_law_480 : decode cL_law 480 = .ok (.iload_n 3, 1) := by decide +kernel
theorem dL_law_481 : decode cL_law 481 = .ok (.iconst 2, 1) := by decide +kernel
theorem dL_law_482 : decode cL_law 482 = .ok (.iadd, 1) := by decide +kernel
theorem dL_law_483 : decode cL_law 483 = .ok (.iaload, 1) := by decide +kernel
theorem dL_law_484 : decode cL_law 484 = .ok (.invokevirtual 70, 3) := by decide +kernel
theorem dL_law_487 : decode cL_law 487 = .ok (.aload_n 2, 1) := by decide +kernel
theorem dL_law_488 : decode cL_law 488 = .ok (.aload_n 0, 1) := by decide +kernel
theorem dL_law_489 : decode cL_law 489 = .ok (.iload_n 3, 1) := by decide +kernel
theorem dL_law_490 : decode cL_law 490 = .ok (.iconst 1, 1) := by decide +kernel
theorem dL_law_491 : decode cL_law 491 = .ok (.iadd, 1) := by decide +kernel
theorem dL_law_492 : decode cL_law 492 = .ok (.iaload, 1) := by decide +kernel
theorem dL_law_493 : decode cL_law 493 = .ok (.aload_n 0, 1) := by decide +kernel
theorem dL_law_494 : decode cL_law 494 = .ok (.iload_n 3, 1) := by decide +kernel
theorem dL_law_495 : decode cL_law 495 = .ok (.iconst 2, 1) := by decide +kernel
theorem dL_law_496 : decode cL_law 496 = .ok (.iadd, 1) := by decide +kernel
theorem dL_law_497 : decode cL_law 497 = .ok (.iaload, 1) := by decide +kernel
theorem dL_law_498 : decode cL_law 498 = .ok (.invokevirtual 73, 3) := by decide +kernel
theorem dL_law_501 : decode cL_law 501 = .ok (.if_icmp .eq 318, 3) := by decide +kernel
theorem dL_law_504 : decode cL_law 504 = .ok (.iconst 0, 1) := by decide +kernel
theorem dL_law_505 : decode cL_law 505 = .ok (.ireturn, 1) := by decide +kernel
theorem dL_law_506 : decode cL_law 506 = .ok (.aload_n 1, 1) := by decide +kernel
theorem dL_law_507 : decode cL_law 507 = .ok (.aload_n 0, 1) := by decide +kernel
theorem dL_law_508 : decode cL_law 508 = .ok (.iload_n 3, 1) := by decide +kernel
theorem dL_law_509 : decode cL_law 509 = .ok (.iconst 1, 1) := by decide +kernel
theorem dL_law_510 : decode cL_law 510 = .ok (.iadd, 1) := by decide +kernel
theorem dL_law_511 : decode cL_law 511 = .ok (.iaload, 1) := by decide +kernel
theorem dL_law_512 : decode cL_law 512 = .ok (.aload_n 0, 1) := by decide +kernel
theorem dL_law_513 : decode cL_law 513 = .ok (.iload_n 3, 1) := by decide +kernel
theorem dL_law_514 : decode cL_law 514 = .ok (.iconst 2, 1) := by decide +kernel
theorem dL_law_515 : decode cL_law 515 = .ok (.iadd, 1) := by decide +kernel
theorem dL_law_516 : decode cL_law 516 = .ok (.iaload, 1) := by decide +kernel
theorem dL_law_517 : decode cL_law 517 = .ok (.invokevirtual 74, 3) := by decide +kernel
theorem dL_law_520 : decode cL_law 520 = .ok (.aload_n 2, 1) := by decide +kernel
theorem dL_law_521 : decode cL_law 521 = .ok (.aload_n 0, 1) := by decide +kernel
theorem dL_law_522 : decode cL_law 522 = .ok (.iload_n 3, 1) := by decide +kernel
theorem dL_law_523 : decode cL_law 523 = .ok (.iconst 1, 1) := by decide +kernel
theorem dL_law_524 : decode cL_law 524 = .ok (.iadd, 1) := by decide +kernel
theorem dL_law_525 : decode cL_law 525 = .ok (.iaload, 1) := by decide +kernel
theorem dL_law_526 : decode cL_law 526 = .ok (.aload_n 0, 1) := by decide +kernel
theorem dL_law_527 : decode cL_law 527 = .ok (.iload_n 3, 1) := by decide +kernel
theorem dL_law_528 : decode cL_law 528 = .ok (.iconst 2, 1) := by decide +kernel
theorem dL_law_529 : decode cL_law 529 = .ok (.iadd, 1) := by decide +kernel
theorem dL_law_530 : decode cL_law 530 = .ok (.iaload, 1) := by decide +kernel
theorem dL_law_531 : decode cL_law 531 = .ok (.invokevirtual 77, 3) := by decide +kernel
theorem dL_law_534 : decode cL_law 534 = .ok (.if_icmp .eq 285, 3) := by decide +kernel
theorem dL_law_537 : decode cL_law 537 = .ok (.iconst 0, 1) := by decide +kernel
theorem dL_law_538 : decode cL_law 538 = .ok (.ireturn, 1) := by decide +kernel
theorem dL_law_539 : decode cL_law 539 = .ok (.aload_n 1, 1) := by decide +kernel
theorem dL_law_540 : decode cL_law 540 = .ok (.aload_n 0, 1) := by decide +kernel
theorem dL_law_541 : decode cL_law 541 = .ok (.iload_n 3, 1) := by decide +kernel
theorem dL_law_542 : decode cL_law 542 = .ok (.iconst 1, 1) := by decide +kernel
theorem dL_law_543 : decode cL_law 543 = .ok (.iadd, 1) := by decide +kernel
theorem dL_law_544 : decode cL_law 544 = .ok (.iaload, 1) := by decide +kernel
theorem dL_law_545 : decode cL_law 545 = .ok (.aload_n 0, 1) := by decide +kernel
theorem dL_law_546 : decode cL_law 546 = .ok (.iload_n 3, 1) := by decide +kernel
theorem dL_law_547 : decode cL_law 547 = .ok (.iconst 2, 1) := by decide +kernel
theorem dL_law_548 : decode cL_law 548 = .ok (.iadd, 1) := by decide +kernel
theorem dL_law_549 : decode cL_law 549 = .ok (.iaload, 1) := by decide +kernel
theorem dL_law_550 : decode cL_law 550 = .ok (.aload_n 0, 1) := by decide +kernel
theorem dL_law_551 : decode cL_law 551 = .ok (.iload_n 3, 1) := by decide +kernel
theorem dL_law_552 : decode cL_law 552 = .ok (.iconst 3, 1) := by decide +kernel
theorem dL_law_553 : decode cL_law 553 = .ok (.iadd, 1) := by decide +kernel
theorem dL_law_554 : decode cL_law 554 = .ok (.iaload, 1) := by decide +kernel
theorem dL_law_555 : decode cL_law 555 = .ok (.invokevirtual 78, 3) := by decide +kernel
theorem dL_law_558 : decode cL_law 558 = .ok (.aload_n 2, 1) := by decide +kernel
theorem dL_law_559 : decode cL_law 559 = .ok (.aload_n 0, 1) := by decide +kernel
theorem dL_law_560 : decode cL_law 560 = .ok (.iload_n 3, 1) := by decide +kernel
theorem dL_law_561 : decode cL_law 561 = .ok (.iconst 1, 1) := by decide +kernel
theorem dL_law_562 : decode cL_law 562 = .ok (.iadd, 1) := by decide +kernel
theorem dL_law_563 : decode cL_law 563 = .ok (.iaload, 1) := by decide +kernel
theorem dL_law_564 : decode cL_law 564 = .ok (.aload_n 0, 1) := by decide +kernel
theorem dL_law_565 : decode cL_law 565 = .ok (.iload_n 3, 1) := by decide +kernel
theorem dL_law_566 : decode cL_law 566 = .ok (.iconst 2, 1) := by decide +kernel
theorem dL_law_567 : decode cL_law 567 = .ok (.iadd, 1) := by decide +kernel
theorem dL_law_568 : decode cL_law 568 = .ok (.iaload, 1) := by decide +kernel
theorem dL_law_569 : decode cL_law 569 = .ok (.aload_n 0, 1) := by decide +kernel
theorem dL_law_570 : decode cL_law 570 = .ok (.iload_n 3, 1) := by decide +kernel
theorem dL_law_571 : decode cL_law 571 = .ok (.iconst 3, 1) := by decide +kernel
theorem dL_law_572 : decode cL_law 572 = .ok (.iadd, 1) := by decide +kernel
theorem dL_law_573 : decode cL_law 573 = .ok (.iaload, 1) := by decide +kernel
theorem dL_law_574 : decode cL_law 574 = .ok (.invokevirtual 81, 3) := by decide +kernel
theorem dL_law_577 : decode cL_law 577 = .ok (.if_icmp .eq 242, 3) := by decide +kernel
theorem dL_law_580 : decode cL_law 580 = .ok (.iconst 0, 1) := by decide +kernel
theorem dL_law_581 : decode cL_law 581 = .ok (.ireturn, 1) := by decide +kernel
theorem dL_law_582 : decode cL_law 582 = .ok (.aload_n 1, 1) := by decide +kernel
theorem dL_law_583 : decode cL_law 583 = .ok (.aload_n 0, 1) := by decide +kernel
theorem dL_law_584 : decode cL_law 584 = .ok (.iload_n 3, 1) := by decide +kernel
theorem dL_law_585 : decode cL_law 585 = .ok (.iconst 1, 1) := by decide +kernel
theorem dL_law_586 : decode cL_law 586 = .ok (.iadd, 1) := by decide +kernel
theorem dL_law_587 : decode cL_law 587 = .ok (.iaload, 1) := by decide +kernel
theorem dL_law_588 : decode cL_law 588 = .ok (.aload_n 0, 1) := by decide +kernel
theorem dL_law_589 : decode cL_law 589 = .ok (.iload_n 3, 1) := by decide +kernel
theorem dL_law_590 : decode cL_law 590 = .ok (.iconst 2, 1) := by decide +kernel
theorem dL_law_591 : decode cL_law 591 = .ok (.iadd, 1) := by decide +kernel
theorem dL_law_592 : decode cL_law 592 = .ok (.iaload, 1) := by decide +kernel
theorem dL_law_593 : decode cL_law 593 = .ok (.invokevirtual 82, 3) := by decide +kernel
theorem dL_law_596 : decode cL_law 596 = .ok (.aload_n 2, 1) := by decide +kernel
theorem dL_law_597 : decode cL_law 597 = .ok (.aload_n 0, 1) := by decide +kernel
theorem dL_law_598 : decode cL_law 598 = .ok (.iload_n 3, 1) := by decide +kernel
theorem dL_law_599 : decode cL_law 599 = .ok (.iconst 1, 1) := by decide +kernel
theorem dL_law_600 : decode cL_law 600 = .ok (.iadd, 1) := by decide +kernel
theorem dL_law_601 : decode cL_law 601 = .ok (.iaload, 1) := by decide +kernel
theorem dL_law_602 : decode cL_law 602 = .ok (.aload_n 0, 1) := by decide +kernel
theorem dL_law_603 : decode cL_law 603 = .ok (.iload_n 3, 1) := by decide +kernel
theorem dL_law_604 : decode cL_law 604 = .ok (.iconst 2, 1) := by decide +kernel
theorem dL_law_605 : decode cL_law 605 = .ok (.iadd, 1) := by decide +kernel
theorem dL_law_606 : decode cL_law 606 = .ok (.iaload, 1) := by decide +kernel
theorem dL_law_607 : decode cL_law 607 = .ok (.invokevirtual 85, 3) := by decide +kernel
theorem dL_law_610 : decode cL_law 610 = .ok (.if_icmp .eq 209, 3) := by decide +kernel
theorem dL_law_613 : decode cL_law 613 = .ok (.iconst 0, 1) := by decide +kernel
theorem dL_law_614 : decode cL_law 614 = .ok (.ireturn, 1) := by decide +kernel
theorem dL_law_615 : decode cL_law 615 = .ok (.aload_n 1, 1) := by decide +kernel
theorem dL_law_616 : decode cL_law 616 = .ok (.invokevirtual 86, 3) := by decide +kernel
theorem dL_law_619 : decode cL_law 619 = .ok (.aload_n 2, 1) := by decide +kernel
theorem dL_law_620 : decode cL_law 620 = .ok (.invokevirtual 89, 3) := by decide +kernel
theorem dL_law_623 : decode cL_law 623 = .ok (.if_icmp .eq 196, 3) := by decide +kernel
theorem dL_law_626 : decode cL_law 626 = .ok (.iconst 0, 1) := by decide +kernel
theorem dL_law_627 : decode cL_law 627 = .ok (.ireturn, 1) := by decide +kernel
theorem dL_law_628 : decode cL_law 628 = .ok (.aload_n 1, 1) := by decide +kernel
theorem dL_law_629 : decode cL_law 629 = .ok (.invokevirtual 90, 3) := by decide +kernel
theorem dL_law_632 : decode cL_law 632 = .ok (.aload_n 2, 1) := by decide +kernel
theorem dL_law_633 : decode cL_law 633 = .ok (.invokevirtual 93, 3) := by decide +kernel
theorem dL_law_636 : decode cL_law 636 = .ok (.if_icmp .eq 183, 3) := by decide +kernel
theorem dL_law_639 : decode cL_law 639 = .ok (.iconst 0, 1) := by decide +kernel
theorem dL_law_640 : decode cL_law 640 = .ok (.ireturn, 1) := by decide +kernel
theorem dL_law_641 : decode cL_law 641 = .ok (.aload_n 1, 1) := by decide +kernel
theorem dL_law_642 : decode cL_law 642 = .ok (.aload_n 0, 1) := by decide +kernel
theorem dL_law_643 : decode cL_law 643 = .ok (.iload_n 3, 1) := by decide +kernel
theorem dL_law_644 : decode cL_law 644 = .ok (.iconst 1, 1) := by decide +kernel
theorem dL_law_645 : decode cL_law 645 = .ok (.iadd, 1) := by decide +kernel
theorem dL_law_646 : decode cL_law 646 = .ok (.iaload, 1) := by decide +kernel
theorem dL_law_647 : decode cL_law 647 = .ok (.aload_n 0, 1) := by decide +kernel
theorem dL_law_648 : decode cL_law 648 = .ok (.iload_n 3, 1) := by decide +kernel
theorem dL_law_649 : decode cL_law 649 = .ok (.iconst 2, 1) := by decide +kernel
theorem dL_law_650 : decode cL_law 650 = .ok (.iadd, 1) := by decide +kernel
theorem dL_law_651 : decode cL_law 651 = .ok (.iaload, 1) := by decide +kernel
theorem dL_law_652 : decode cL_law 652 = .ok (.invokevirtual 94, 3) := by decide +kernel
theorem dL_law_655 : decode cL_law 655 = .ok (.aload_n 2, 1) := by decide +kernel
theorem dL_law_656 : decode cL_law 656 = .ok (.aload_n 0, 1) := by decide +kernel
theorem dL_law_657 : decode cL_law 657 = .ok (.iload_n 3, 1) := by decide +kernel
theorem dL_law_658 : decode cL_law 658 = .ok (.iconst 1, 1) := by decide +kernel
theorem dL_law_659 : decode cL_law 659 = .ok (.iadd, 1) := by decide +kernel
theorem dL_law_660 : decode cL_law 660 = .ok (.iaload, 1) := by decide +kernel
theorem dL_law_661 : decode cL_law 661 = .ok (.aload_n 0, 1) := by decide +kernel
theorem dL_law_662 : decode cL_law 662 = .ok (.iload_n 3, 1) := by decide +kernel
theorem dL_law_663 : decode cL_law 663 = .ok (.iconst 2, 1) := by decide +kernel
theorem dL_law_664 : decode cL_law 664 = .ok (.iadd, 1) := by decide +kernel
theorem dL_law_665 : decode cL_law 665 = .ok (.iaload, 1) := by decide +kernel
theorem dL_law_666 : decode cL_law 666 = .ok (.invokevirtual 97, 3) := by decide +kernel
theorem dL_law_669 : decode cL_law 669 = .ok (.if_icmp .eq 150, 3) := by decide +kernel
theorem dL_law_672 : decode cL_law 672 = .ok (.iconst 0, 1) := by decide +kernel
theorem dL_law_673 : decode cL_law 673 = .ok (.ireturn, 1) := by decide +kernel
theorem dL_law_674 : decode cL_law 674 = .ok (.aload_n 1, 1) := by decide +kernel
theorem dL_law_675 : decode cL_law 675 = .ok (.aload_n 0, 1) := by decide +kernel
theorem dL_law_676 : decode cL_law 676 = .ok (.iload_n 3, 1) := by decide +kernel
theorem dL_law_677 : decode cL_law 677 = .ok (.iconst 1, 1) := by decide +kernel
theorem dL_law_678 : decode cL_law 678 = .ok (.iadd, 1) := by decide +kernel
theorem dL_law_679 : decode cL_law 679 = .ok (.iaload, 1) := by decide +kernel
theorem dL_law_680 : decode cL_law 680 = .ok (.aload_n 0, 1) := by decide +kernel
theorem dL_law_681 : decode cL_law 681 = .ok (.iload_n 3, 1) := by decide +kernel
theorem dL_law_682 : decode cL_law 682 = .ok (.iconst 2, 1) := by decide +kernel
theorem dL_law_683 : decode cL_law 683 = .ok (.iadd, 1) := by decide +kernel
theorem dL_law_684 : decode cL_law 684 = .ok (.iaload, 1) := by decide +kernel
theorem dL_law_685 : decode cL_law 685 = .ok (.aload_n 0, 1) := by decide +kernel
theorem dL_law_686 : decode cL_law 686 = .ok (.iload_n 3, 1) := by decide +kernel
theorem dL_law_687 : decode cL_law 687 = .ok (.iconst 3, 1) := by decide +kernel
theorem dL_law_688 : decode cL_law 688 = .ok (.iadd, 1) := by decide +kernel
theorem dL_law_689 : decode cL_law 689 = .ok (.iaload, 1) := by decide +kernel
theorem dL_law_690 : decode cL_law 690 = .ok (.aload_n 0, 1) := by decide +kernel
theorem dL_law_691 : decode cL_law 691 = .ok (.iload_n 3, 1) := by decide +kernel
theorem dL_law_692 : decode cL_law 692 = .ok (.iconst 4, 1) := by decide +kernel
theorem dL_law_693 : decode cL_law 693 = .ok (.iadd, 1) := by decide +kernel
theorem dL_law_694 : decode cL_law 694 = .ok (.iaload, 1) := by decide +kernel
theorem dL_law_695 : decode cL_law 695 = .ok (.invokevirtual 98, 3) := by decide +kernel
theorem dL_law_698 : decode cL_law 698 = .ok (.aload_n 2, 1) := by decide +kernel
theorem dL_law_699 : decode cL_law 699 = .ok (.aload_n 0, 1) := by decide +kernel
theorem dL_law_700 : decode cL_law 700 = .ok (.iload_n 3, 1) := by decide +kernel
theorem dL_law_701 : decode cL_law 701 = .ok (.iconst 1, 1) := by decide +kernel
theorem dL_law_702 : decode cL_law 702 = .ok (.iadd, 1) := by decide +kernel
theorem dL_law_703 : decode cL_law 703 = .ok (.iaload, 1) := by decide +kernel
theorem dL_law_704 : decode cL_law 704 = .ok (.aload_n 0, 1) := by decide +kernel
theorem dL_law_705 : decode cL_law 705 = .ok (.iload_n 3, 1) := by decide +kernel
theorem dL_law_706 : decode cL_law 706 = .ok (.iconst 2, 1) := by decide +kernel
theorem dL_law_707 : decode cL_law 707 = .ok (.iadd, 1) := by decide +kernel
theorem dL_law_708 : decode cL_law 708 = .ok (.iaload, 1) := by decide +kernel
theorem dL_law_709 : decode cL_law 709 = .ok (.aload_n 0, 1) := by decide +kernel
theorem dL_law_710 : decode cL_law 710 = .ok (.iload_n 3, 1) := by decide +kernel
theorem dL_law_711 : decode cL_law 711 = .ok (.iconst 3, 1) := by decide +kernel
theorem dL_law_712 : decode cL_law 712 = .ok (.iadd, 1) := by decide +kernel
theorem dL_law_713 : decode cL_law 713 = .ok (.iaload, 1) := by decide +kernel
theorem dL_law_714 : decode cL_law 714 = .ok (.aload_n 0, 1) := by decide +kernel
theorem dL_law_715 : decode cL_law 715 = .ok (.iload_n 3, 1) := by decide +kernel
theorem dL_law_716 : decode cL_law 716 = .ok (.iconst 4, 1) := by decide +kernel
theorem dL_law_717 : decode cL_law 717 = .ok (.iadd, 1) := by decide +kernel
theorem dL_law_718 : decode cL_law 718 = .ok (.iaload, 1) := by decide +kernel
theorem dL_law_719 : decode cL_law 719 = .ok (.invokevirtual 102, 3) := by decide +kernel
theorem dL_law_722 : decode cL_law 722 = .ok (.if_icmp .eq 97, 3) := by decide +kernel
theorem dL_law_725 : decode cL_law 725 = .ok (.iconst 0, 1) := by decide +kernel
theorem dL_law_726 : decode cL_law 726 = .ok (.ireturn, 1) := by decide +kernel
theorem dL_law_727 : decode cL_law 727 = .ok (.aload_n 1, 1) := by decide +kernel
theorem dL_law_728 : decode cL_law 728 = .ok (.aload_n 0, 1) := by decide +kernel
theorem dL_law_729 : decode cL_law 729 = .ok (.iload_n 3, 1) := by decide +kernel
theorem dL_law_730 : decode cL_law 730 = .ok (.iconst 1, 1) := by decide +kernel
theorem dL_law_731 : decode cL_law 731 = .ok (.iadd, 1) := by decide +kernel
theorem dL_law_732 : decode cL_law 732 = .ok (.iaload, 1) := by decide +kernel
theorem dL_law_733 : decode cL_law 733 = .ok (.aload_n 0, 1) := by decide +kernel
theorem dL_law_734 : decode cL_law 734 = .ok (.iload_n 3, 1) := by decide +kernel
theorem dL_law_735 : decode cL_law 735 = .ok (.iconst 2, 1) := by decide +kernel
theorem dL_law_736 : decode cL_law 736 = .ok (.iadd, 1) := by decide +kernel
theorem dL_law_737 : decode cL_law 737 = .ok (.iaload, 1) := by decide +kernel
theorem dL_law_738 : decode cL_law 738 = .ok (.aload_n 0, 1) := by decide +kernel
theorem dL_law_739 : decode cL_law 739 = .ok (.iload_n 3, 1) := by decide +kernel
theorem dL_law_740 : decode cL_law 740 = .ok (.iconst 3, 1) := by decide +kernel
theorem dL_law_741 : decode cL_law 741 = .ok (.iadd, 1) := by decide +kernel
theorem dL_law_742 : decode cL_law 742 = .ok (.iaload, 1) := by decide +kernel
theorem dL_law_743 : decode cL_law 743 = .ok (.invokevirtual 103, 3) := by decide +kernel
theorem dL_law_746 : decode cL_law 746 = .ok (.aload_n 2, 1) := by decide +kernel
theorem dL_law_747 : decode cL_law 747 = .ok (.aload_n 0, 1) := by decide +kernel
theorem dL_law_748 : decode cL_law 748 = .ok (.iload_n 3, 1) := by decide +kernel
theorem dL_law_749 : decode cL_law 749 = .ok (.iconst 1, 1) := by decide +kernel
theorem dL_law_750 : decode cL_law 750 = .ok (.iadd, 1) := by decide +kernel
theorem dL_law_751 : decode cL_law 751 = .ok (.iaload, 1) := by decide +kernel
theorem dL_law_752 : decode cL_law 752 = .ok (.aload_n 0, 1) := by decide +kernel
theorem dL_law_753 : decode cL_law 753 = .ok (.iload_n 3, 1) := by decide +kernel
theorem dL_law_754 : decode cL_law 754 = .ok (.iconst 2, 1) := by decide +kernel
theorem dL_law_755 : decode cL_law 755 = .ok (.iadd, 1) := by decide +kernel
theorem dL_law_756 : decode cL_law 756 = .ok (.iaload, 1) := by decide +kernel
theorem dL_law_757 : decode cL_law 757 = .ok (.aload_n 0, 1) := by decide +kernel
theorem dL_law_758 : decode cL_law 758 = .ok (.iload_n 3, 1) := by decide +kernel
theorem dL_law_759 : decode cL_law 759 = .ok (.iconst 3, 1) := by decide +kernel
theorem dL_law_760 : decode cL_law 760 = .ok (.iadd, 1) := by decide +kernel
theorem dL_law_761 : decode cL_law 761 = .ok (.iaload, 1) := by decide +kernel
theorem dL_law_762 : decode cL_law 762 = .ok (.invokevirtual 106, 3) := by decide +kernel
theorem dL_law_765 : decode cL_law 765 = .ok (.if_icmp .eq 54, 3) := by decide +kernel
theorem dL_law_768 : decode cL_law 768 = .ok (.iconst 0, 1) := by decide +kernel
theorem dL_law_769 : decode cL_law 769 = .ok (.ireturn, 1) := by decide +kernel
theorem dL_law_770 : decode cL_law 770 = .ok (.aload_n 1, 1) := by decide +kernel
theorem dL_law_771 : decode cL_law 771 = .ok (.invokevirtual 107, 3) := by decide +kernel
theorem dL_law_774 : decode cL_law 774 = .ok (.aload_n 2, 1) := by decide +kernel
theorem dL_law_775 : decode cL_law 775 = .ok (.invokevirtual 110, 3) := by decide +kernel
theorem dL_law_778 : decode cL_law 778 = .ok (.if_icmp .eq 41, 3) := by decide +kernel
theorem dL_law_781 : decode cL_law 781 = .ok (.iconst 0, 1) := by decide +kernel
theorem dL_law_782 : decode cL_law 782 = .ok (.ireturn, 1) := by decide +kernel
theorem dL_law_783 : decode cL_law 783 = .ok (.aload_n 1, 1) := by decide +kernel
theorem dL_law_784 : decode cL_law 784 = .ok (.invokevirtual 111, 3) := by decide +kernel
theorem dL_law_787 : decode cL_law 787 = .ok (.aload_n 2, 1) := by decide +kernel
theorem dL_law_788 : decode cL_law 788 = .ok (.invokevirtual 114, 3) := by decide +kernel
theorem dL_law_791 : decode cL_law 791 = .ok (.if_icmp .eq 28, 3) := by decide +kernel
theorem dL_law_794 : decode cL_law 794 = .ok (.iconst 0, 1) := by decide +kernel
theorem dL_law_795 : decode cL_law 795 = .ok (.ireturn, 1) := by decide +kernel
theorem dL_law_796 : decode cL_law 796 = .ok (.aload_n 1, 1) := by decide +kernel
theorem dL_law_797 : decode cL_law 797 = .ok (.aload_n 0, 1) := by decide +kernel
theorem dL_law_798 : decode cL_law 798 = .ok (.iload_n 3, 1) := by decide +kernel
theorem dL_law_799 : decode cL_law 799 = .ok (.iconst 1, 1) := by decide +kernel
theorem dL_law_800 : decode cL_law 800 = .ok (.iadd, 1) := by decide +kernel
theorem dL_law_801 : decode cL_law 801 = .ok (.iaload, 1) := by decide +kernel
theorem dL_law_802 : decode cL_law 802 = .ok (.invokevirtual 115, 3) := by decide +kernel
theorem dL_law_805 : decode cL_law 805 = .ok (.aload_n 2, 1) := by decide +kernel
theorem dL_law_806 : decode cL_law 806 = .ok (.aload_n 0, 1) := by decide +kernel
theorem dL_law_807 : decode cL_law 807 = .ok (.iload_n 3, 1) := by decide +kernel
theorem dL_law_808 : decode cL_law 808 = .ok (.iconst 1, 1) := by decide +kernel
theorem dL_law_809 : decode cL_law 809 = .ok (.iadd, 1) := by decide +kernel
theorem dL_law_810 : decode cL_law 810 = .ok (.iaload, 1) := by decide +kernel
theorem dL_law_811 : decode cL_law 811 = .ok (.invokevirtual 118, 3) := by decide +kernel
theorem dL_law_814 : decode cL_law 814 = .ok (.if_icmp .eq 5, 3) := by decide +kernel
theorem dL_law_817 : decode cL_law 817 = .ok (.iconst 0, 1) := by decide +kernel
theorem dL_law_818 : decode cL_law 818 = .ok (.ireturn, 1) := by decide +kernel
theorem dL_law_819 : decode cL_law 819 = .ok (.iinc 3 5, 3) := by decide +kernel
theorem dL_law_822 : decode cL_law 822 = .ok (.goto (-804), 3) := by decide +kernel
theorem dL_law_825 : decode cL_law 825 = .ok (.iconst 1, 1) := by decide +kernel
theorem dL_law_826 : decode cL_law 826 = .ok (.ireturn, 1) := by decide +kernel
