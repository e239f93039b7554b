theorem dX11_lays_0 : decode cX11_lays 0 = .ok (.aload_n 0, 1) := by decide +kernel
theorem dX11_lays_1 : decode cX11_lays 1 = .ok (.iload_n 1, 1) := by decide +kernel
theorem dX11_lays_2 : decode cX11_lays 2 = .ok (.iload_n 2, 1) := by decide +kernel
theorem dX11_lays_3 : decode cX11_lays 3 = .ok (.iconst 4, 1) := by decide +kernel
theorem dX11_lays_4 : decode cX11_lays 4 = .ok (.invokevirtual 139, 3) := by decide +kernel
theorem dX11_lays_7 : decode cX11_lays 7 = .ok (.istore 4, 2) := by decide +kernel
theorem dX11_lays_9 : decode cX11_lays 9 = .ok (.aload_n 0, 1) := by decide +kernel
theorem dX11_lays_10 : decode cX11_lays 10 = .ok (.getfield 235, 3) := by decide +kernel
theorem dX11_lays_13 : decode cX11_lays 13 = .ok (.bipush 60, 2) := by decide +kernel
theorem dX11_lays_15 : decode cX11_lays 15 = .ok (.if_icmp .ne 10, 3) := by decide +kernel
theorem dX11_lays_18 : decode cX11_lays 18 = .ok (.aload_n 0, 1) := by decide +kernel
theorem dX11_lays_19 : decode cX11_lays 19 = .ok (.iconst 2, 1) := by decide +kernel
theorem dX11_lays_20 : decode cX11_lays 20 = .ok (.putfield 238, 3) := by decide +kernel
theorem dX11_lays_23 : decode cX11_lays 23 = .ok (.iconst 0, 1) := by decide +kernel
theorem dX11_lays_24 : decode cX11_lays 24 = .ok (.ireturn, 1) := by decide +kernel
theorem dX11_lays_25 : decode cX11_lays 25 = .ok (.aload_n 0, 1) := by decide +kernel
theorem dX11_lays_26 : decode cX11_lays 26 = .ok (.getfield 241, 3) := by decide +kernel
theorem dX11_lays_29 : decode cX11_lays 29 = .ok (.iload 4, 2) := by decide +kernel
theorem dX11_lays_31 : decode cX11_lays 31 = .ok (.iadd, 1) := by decide +kernel
theorem dX11_lays_32 : decode cX11_lays 32 = .ok (.aload_n 0, 1) := by decide +kernel
theorem dX11_lays_33 : decode cX11_lays 33 = .ok (.invokevirtual 218, 3) := by decide +kernel
theorem dX11_lays_36 : decode cX11_lays 36 = .ok (.if_icmp .le 10, 3) := by decide +kernel
theorem dX11_lays_39 : decode cX11_lays 39 = .ok (.aload_n 0, 1) := by decide +kernel
theorem dX11_lays_40 : decode cX11_lays 40 = .ok (.iconst 1, 1) := by decide +kernel
theorem dX11_lays_41 : decode cX11_lays 41 = .ok (.putfield 238, 3) := by decide +kernel
theorem dX11_lays_44 : decode cX11_lays 44 = .ok (.iconst 0, 1) := by decide +kernel
theorem dX11_lays_45 : decode cX11_lays 45 = .ok (.ireturn, 1) := by decide +kernel
theorem dX11_lays_46 : decode cX11_lays 46 = .ok (.aload_n 0, 1) := by decide +kernel
theorem dX11_lays_47 : decode cX11_lays 47 = .ok (.iload_n 1, 1) := by decide +kernel
theorem dX11_lays_48 : decode cX11_lays 48 = .ok (.iload_n 2, 1) := by decide +kernel
theorem dX11_lays_49 : decode cX11_lays 49 = .ok (.iconst 0, 1) := by decide +kernel
theorem dX11_lays_50 : decode cX11_lays 50 = .ok (.invokevirtual 139, 3) := by decide +kernel
theorem dX11_lays_53 : decode cX11_lays 53 = .ok (.iconst 2, 1) := by decide +kernel
theorem dX11_lays_54 : decode cX11_lays 54 = .ok (.if_icmp .ne 7, 3) := by decide +kernel
theorem dX11_lays_57 : decode cX11_lays 57 = .ok (.iconst 1, 1) := by decide +kernel
theorem dX11_lays_58 : decode cX11_lays 58 = .ok (.goto 4, 3) := by decide +kernel
theorem dX11_lays_61 : decode cX11_lays 61 = .ok (.iconst 0, 1) := by decide +kernel
theorem dX11_lays_62 : decode cX11_lays 62 = .ok (.istore 5, 2) := by decide +kernel
theorem dX11_lays_64 : decode cX11_lays 64 = .ok (.aload_n 0, 1) := by decide +kernel
theorem dX11_lays_65 : decode cX11_lays 65 = .ok (.getfield 40, 3) := by decide +kernel
theorem dX11_lays_68 : decode cX11_lays 68 = .ok (.aload_n 0, 1) := by decide +kernel
theorem dX11_lays_69 : decode cX11_lays 69 = .ok (.getfield 235, 3) := by decide +kernel
theorem dX11_lays_72 : decode cX11_lays 72 = .ok (.aload_n 0, 1) := by decide +kernel
theorem dX11_lays_73 : decode cX11_lays 73 = .ok (.getfield 241, 3) := by decide +kernel
theorem dX11_lays_76 : decode cX11_lays 76 = .ok (.iastore, 1) := by decide +kernel
theorem dX11_lays_77 : decode cX11_lays 77 = .ok (.aload_n 0, 1) := by decide +kernel
theorem dX11_lays_78 : decode cX11_lays 78 = .ok (.getfield 43, 3) := by decide +kernel
theorem dX11_lays_81 : decode cX11_lays 81 = .ok (.aload_n 0, 1) := by decide +kernel
theorem dX11_lays_82 : decode cX11_lays 82 = .ok (.getfield 235, 3) := by decide +kernel
theorem dX11_lays_85 : decode cX11_lays 85 = .ok (.iload 4, 2) := by decide +kernel
theorem dX11_lays_87 : decode cX11_lays 87 = .ok (.iastore, 1) := by decide +kernel
theorem dX11_lays_88 : decode cX11_lays 88 = .ok (.aload_n 0, 1) := by decide +kernel
theorem dX11_lays_89 : decode cX11_lays 89 = .ok (.getfield 46, 3) := by decide +kernel
theorem dX11_lays_92 : decode cX11_lays 92 = .ok (.aload_n 0, 1) := by decide +kernel
theorem dX11_lays_93 : decode cX11_lays 93 = .ok (.getfield 235, 3) := by decide +kernel
theorem dX11_lays_96 : decode cX11_lays 96 = .ok (.iload 5, 2) := by decide +kernel
theorem dX11_lays_98 : decode cX11_lays 98 = .ok (.ifCond .eq 14, 3) := by decide +kernel
theorem dX11_lays_101 : decode cX11_lays 101 = .ok (.aload_n 0, 1) := by decide +kernel
theorem dX11_lays_102 : decode cX11_lays 102 = .ok (.iload_n 1, 1) := by decide +kernel
theorem dX11_lays_103 : decode cX11_lays 103 = .ok (.iload_n 2, 1) := by decide +kernel
theorem dX11_lays_104 : decode cX11_lays 104 = .ok (.bipush 10, 2) := by decide +kernel
theorem dX11_lays_106 : decode cX11_lays 106 = .ok (.invokevirtual 139, 3) := by decide +kernel
theorem dX11_lays_109 : decode cX11_lays 109 = .ok (.goto 10, 3) := by decide +kernel
theorem dX11_lays_112 : decode cX11_lays 112 = .ok (.aload_n 0, 1) := by decide +kernel
theorem dX11_lays_113 : decode cX11_lays 113 = .ok (.iload_n 1, 1) := by decide +kernel
theorem dX11_lays_114 : decode cX11_lays 114 = .ok (.iload_n 2, 1) := by decide +kernel
theorem dX11_lays_115 : decode cX11_lays 115 = .ok (.iconst 5, 1) := by decide +kernel
theorem dX11_lays_116 : decode cX11_lays 116 = .ok (.invokevirtual 139, 3) := by decide +kernel
theorem dX11_lays_119 : decode cX11_lays 119 = .ok (.iastore, 1) := by decide +kernel
theorem dX11_lays_120 : decode cX11_lays 120 = .ok (.aload_n 0, 1) := by decide +kernel
theorem dX11_lays_121 : decode cX11_lays 121 = .ok (.getfield 49, 3) := by decide +kernel
theorem dX11_lays_124 : decode cX11_lays 124 = .ok (.aload_n 0, 1) := by decide +kernel
theorem dX11_lays_125 : decode cX11_lays 125 = .ok (.getfield 235, 3) := by decide +kernel
theorem dX11_lays_128 : decode cX11_lays 128 = .ok (.iload 5, 2) := by decide +kernel
theorem dX11_lays_130 : decode cX11_lays 130 = .ok (.ifCond .eq 7, 3) := by decide +kernel
theorem dX11_lays_133 : decode cX11_lays 133 = .ok (.iconst 0, 1) := by decide +kernel
theorem dX11_lays_134 : decode cX11_lays 134 = .ok (.goto 11, 3) := by decide +kernel
theorem dX11_lays_137 : decode cX11_lays 137 = .ok (.aload_n 0, 1) := by decide +kernel
theorem dX11_lays_138 : decode cX11_lays 138 = .ok (.iload_n 1, 1) := by decide +kernel
theorem dX11_lays_139 : decode cX11_lays 139 = .ok (.iload_n 2, 1) := by decide +kernel
theorem dX11_lays_140 : decode cX11_lays 140 = .ok (.bipush 6, 2) := by decide +kernel
theorem dX11_lays_142 : decode cX11_lays 142 = .ok (.invokevirtual 139, 3) := by decide +kernel
theorem dX11_lays_145 : decode cX11_lays 145 = .ok (.iastore, 1) := by decide +kernel
theorem dX11_lays_146 : decode cX11_lays 146 = .ok (.aload_n 0, 1) := by decide +kernel
theorem dX11_lays_147 : decode cX11_lays 147 = .ok (.getfield 52, 3) := by decide +kernel
theorem dX11_lays_150 : decode cX11_lays 150 = .ok (.aload_n 0, 1) := by decide +kernel
theorem dX11_lays_151 : decode cX11_lays 151 = .ok (.getfield 235, 3) := by decide +kernel
theorem dX11_lays_154 : decode cX11_lays 154 = .ok (.iload 5, 2) := by decide +kernel
theorem dX11_lays_156 : decode cX11_lays 156 = .ok (.ifCond .eq 19, 3) := by decide +kernel
theorem dX11_lays_159 : decode cX11_lays 159 = .ok (.aload_n 0, 1) := by decide +kernel
theorem dX11_lays_160 : decode cX11_lays 160 = .ok (.getfield 68, 3) := by decide +kernel
theorem dX11_lays_163 : decode cX11_lays 163 = .ok (.aload_n 0, 1) := by decide +kernel
theorem dX11_lays_164 : decode cX11_lays 164 = .ok (.iload_n 1, 1) := by decide +kernel
theorem dX11_lays_165 : decode cX11_lays 165 = .ok (.iload_n 2, 1) := by decide +kernel
theorem dX11_lays_166 : decode cX11_lays 166 = .ok (.bipush 11, 2) := by decide +kernel
theorem dX11_lays_168 : decode cX11_lays 168 = .ok (.invokevirtual 139, 3) := by decide +kernel
theorem dX11_lays_171 : decode cX11_lays 171 = .ok (.iaload, 1) := by decide +kernel
theorem dX11_lays_172 : decode cX11_lays 172 = .ok (.goto 6, 3) := by decide +kernel
theorem dX11_lays_175 : decode cX11_lays 175 = .ok (.sipush (-1009), 3) := by decide +kernel
theorem dX11_lays_178 : decode cX11_lays 178 = .ok (.iastore, 1) := by decide +kernel
theorem dX11_lays_179 : decode cX11_lays 179 = .ok (.aload_n 0, 1) := by decide +kernel
theorem dX11_lays_180 : decode cX11_lays 180 = .ok (.getfield 55, 3) := by decide +kernel
theorem dX11_lays_183 : decode cX11_lays 183 = .ok (.aload_n 0, 1) := by decide +kernel
theorem dX11_lays_184 : decode cX11_lays 184 = .ok (.getfield 235, 3) := by decide +kernel
theorem dX11_lays_187 : decode cX11_lays 187 = .ok (.iload 5, 2) := by decide +kernel
theorem dX11_lays_189 : decode cX11_lays 189 = .ok (.ifCond .eq 19, 3) := by decide +kernel
theorem dX11_lays_192 : decode cX11_lays 192 = .ok (.aload_n 0, 1) := by decide +kernel
theorem dX11_lays_193 : decode cX11_lays 193 = .ok (.getfield 71, 3) := by decide +kernel
theorem dX11_lays_196 : decode cX11_lays 196 = .ok (.aload_n 0, 1) := by decide +kernel
theorem dX11_lays_197 : decode cX11_lays 197 = .ok (.iload_n 1, 1) := by decide +kernel
theorem dX11_lays_198 : decode cX11_lays 198 = .ok (.iload_n 2, 1) := by decide +kernel
theorem dX11_lays_199 : decode cX11_lays 199 = .ok (.bipush 12, 2) := by decide +kernel
theorem dX11_lays_201 : decode cX11_lays 201 = .ok (.invokevirtual 139, 3) := by decide +kernel
theorem dX11_lays_204 : decode cX11_lays 204 = .ok (.iaload, 1) := by decide +kernel
theorem dX11_lays_205 : decode cX11_lays 205 = .ok (.goto 6, 3) := by decide +kernel
theorem dX11_lays_208 : decode cX11_lays 208 = .ok (.sipush (-1009), 3) := by decide +kernel
theorem dX11_lays_211 : decode cX11_lays 211 = .ok (.iastore, 1) := by decide +kernel
theorem dX11_lays_212 : decode cX11_lays 212 = .ok (.aload_n 0, 1) := by decide +kernel
theorem dX11_lays_213 : decode cX11_lays 213 = .ok (.getfield 58, 3) := by decide +kernel
theorem dX11_lays_216 : decode cX11_lays 216 = .ok (.aload_n 0, 1) := by decide +kernel
theorem dX11_lays_217 : decode cX11_lays 217 = .ok (.getfield 235, 3) := by decide +kernel
theorem dX11_lays_220 : decode cX11_lays 220 = .ok (.aload_n 0, 1) := by decide +kernel
theorem dX11_lays_221 : decode cX11_lays 221 = .ok (.getfield 244, 3) := by decide +kernel
theorem dX11_lays_224 : decode cX11_lays 224 = .ok (.iconst 1, 1) := by decide +kernel
theorem dX11_lays_225 : decode cX11_lays 225 = .ok (.iadd, 1) := by decide +kernel
theorem dX11_lays_226 : decode cX11_lays 226 = .ok (.iastore, 1) := by decide +kernel
theorem dX11_lays_227 : decode cX11_lays 227 = .ok (.iconst 0, 1) := by decide +kernel
theorem dX11_lays_228 : decode cX11_lays 228 = .ok (.istore 6, 2) := by decide +kernel
theorem dX11_lays_230 : decode cX11_lays 230 = .ok (.iload 6, 2) := by decide +kernel
theorem dX11_lays_232 : decode cX11_lays 232 = .ok (.aload_n 0, 1) := by decide +kernel
theorem dX11_lays_233 : decode cX11_lays 233 = .ok (.getfield 244, 3) := by decide +kernel
theorem dX11_lays_236 : decode cX11_lays 236 = .ok (.if_icmp .ge 48, 3) := by decide +kernel
theorem dX11_lays_239 : decode cX11_lays 239 = .ok (.aload_n 0, 1) := by decide +kernel
theorem dX11_lays_240 : decode cX11_lays 240 = .ok (.getfield 61, 3) := by decide +kernel
theorem dX11_lays_243 : decode cX11_lays 243 = .ok (.iconst 4, 1) := by decide +kernel
theorem dX11_lays_244 : decode cX11_lays 244 = .ok (.aload_n 0, 1) := by decide +kernel
theorem dX11_lays_245 : decode cX11_lays 245 = .ok (.getfield 235, 3) := by decide +kernel
theorem dX11_lays_248 : decode cX11_lays 248 = .ok (.imul, 1) := by decide +kernel
theorem dX11_lays_249 : decode cX11_lays 249 = .ok (.iload 6, 2) := by decide +kernel
theorem dX11_lays_251 : decode cX11_lays 251 = .ok (.iadd, 1) := by decide +kernel
theorem dX11_lays_252 : decode cX11_lays 252 = .ok (.sipush 1000, 3) := by decide +kernel
theorem dX11_lays_255 : decode cX11_lays 255 = .ok (.aload_n 0, 1) := by decide +kernel
theorem dX11_lays_256 : decode cX11_lays 256 = .ok (.getfield 80, 3) := by decide +kernel
theorem dX11_lays_259 : decode cX11_lays 259 = .ok (.iload 6, 2) := by decide +kernel
theorem dX11_lays_261 : decode cX11_lays 261 = .ok (.iaload, 1) := by decide +kernel
theorem dX11_lays_262 : decode cX11_lays 262 = .ok (.imul, 1) := by decide +kernel
theorem dX11_lays_263 : decode cX11_lays 263 = .ok (.aload_n 0, 1) := by decide +kernel
theorem dX11_lays_264 : decode cX11_lays 264 = .ok (.iload_n 1, 1) := by decide +kernel
theorem dX11_lays_265 : decode cX11_lays 265 = .ok (.aload_n 0, 1) := by decide +kernel
theorem dX11_lays_266 : decode cX11_lays 266 = .ok (.getfield 74, 3) := by decide +kernel
theorem dX11_lays_269 : decode cX11_lays 269 = .ok (.iload 6, 2) := by decide +kernel
theorem dX11_lays_271 : decode cX11_lays 271 = .ok (.iaload, 1) := by decide +kernel
theorem dX11_lays_272 : decode cX11_lays 272 = .ok (.iconst 1, 1) := by decide +kernel
theorem dX11_lays_273 : decode cX11_lays 273 = .ok (.invokevirtual 139, 3) := by decide +kernel
theorem dX11_lays_276 : decode cX11_lays 276 = .ok (.iadd, 1) := by decide +kernel
theorem dX11_lays_277 : decode cX11_lays 277 = .ok (.iastore, 1) := by decide +kernel
theorem dX11_lays_278 : decode cX11_lays 278 = .ok (.iinc 6 1, 3) := by decide +kernel
theorem dX11_lays_281 : decode cX11_lays 281 = .ok (.goto (-51), 3) := by decide +kernel
theorem dX11_lays_284 : decode cX11_lays 284 = .ok (.aload_n 0, 1) := by decide +kernel
theorem dX11_lays_285 : decode cX11_lays 285 = .ok (.getfield 61, 3) := by decide +kernel
theorem dX11_lays_288 : decode cX11_lays 288 = .ok (.iconst 4, 1) := by decide +kernel
theorem dX11_lays_289 : decode cX11_lays 289 = .ok (.aload_n 0, 1) := by decide +kernel
theorem dX11_lays_290 : decode cX11_lays 290 = .ok (.getfield 235, 3) := by decide +kernel
theorem dX11_lays_293 : decode cX11_lays 293 = .ok (.imul, 1) := by decide +kernel
theorem dX11_lays_294 : decode cX11_lays 294 = .ok (.aload_n 0, 1) := by decide +kernel
theorem dX11_lays_295 : decode cX11_lays 295 = .ok (.getfield 244, 3) := by decide +kernel
theorem dX11_lays_298 : decode cX11_lays 298 = .ok (.iadd, 1) := by decide +kernel
theorem dX11_lays_299 : decode cX11_lays 299 = .ok (.sipush 1000, 3) := by decide +kernel
theorem dX11_lays_302 : decode cX11_lays 302 = .ok (.iload_n 3, 1) := by decide +kernel
theorem dX11_lays_303 : decode cX11_lays 303 = .ok (.imul, 1) := by decide +kernel
theorem dX11_lays_304 : decode cX11_lays 304 = .ok (.aload_n 0, 1) := by decide +kernel
theorem dX11_lays_305 : decode cX11_lays 305 = .ok (.iload_n 1, 1) := by decide +kernel
theorem dX11_lays_306 : decode cX11_lays 306 = .ok (.iload_n 2, 1) := by decide +kernel
theorem dX11_lays_307 : decode cX11_lays 307 = .ok (.iconst 1, 1) := by decide +kernel
theorem dX11_lays_308 : decode cX11_lays 308 = .ok (.invokevirtual 139, 3) := by decide +kernel
theorem dX11_lays_311 : decode cX11_lays 311 = .ok (.iadd, 1) := by decide +kernel
theorem dX11_lays_312 : decode cX11_lays 312 = .ok (.iastore, 1) := by decide +kernel
theorem dX11_lays_313 : decode cX11_lays 313 = .ok (.aload_n 0, 1) := by decide +kernel
theorem dX11_lays_314 : decode cX11_lays 314 = .ok (.dup, 1) := by decide +kernel
theorem dX11_lays_315 : decode cX11_lays 315 = .ok (.getfield 235, 3) := by decide +kernel
theorem dX11_lays_318 : decode cX11_lays 318 = .ok (.iconst 1, 1) := by decide +kernel
theorem dX11_lays_319 : decode cX11_lays 319 = .ok (.iadd, 1) := by decide +kernel
theorem dX11_lays_320 : decode cX11_lays 320 = .ok (.putfield 235, 3) := by decide +kernel
theorem dX11_lays_323 : decode cX11_lays 323 = .ok (.aload_n 0, 1) := by decide +kernel
theorem dX11_lays_324 : decode cX11_lays 324 = .ok (.dup, 1) := by decide +kernel
theorem dX11_lays_325 : decode cX11_lays 325 = .ok (.getfield 241, 3) := by decide +kernel
theorem dX11_lays_328 : decode cX11_lays 328 = .ok (.iload 4, 2) := by decide +kernel
theorem dX11_lays_330 : decode cX11_lays 330 = .ok (.iadd, 1) := by decide +kernel
theorem dX11_lays_331 : decode cX11_lays 331 = .ok (.putfield 241, 3) := by decide +kernel
theorem dX11_lays_334 : decode cX11_lays 334 = .ok (.iconst 1, 1) := by decide +kernel
theorem dX11_lays_335 : decode cX11_lays 335 = .ok (.ireturn, 1) := by decide +kernel
theorem vc_X11_lays_0 {G : zG} {d : Nat} {Q : Option zV → zHp → Prop} (p1 : Int) (p2 : Int) (p3 : Int) (h : zHp) (hS : zSh h) (hd : 1 ≤ d) (I_230 : Int → Int → Int → Int → Int → Int → zHp → Prop) (hI_230 : ∀ (y1 : Int) (y2 : Int) (y3 : Int) (y4 : Int) (y5 : Int) (y6 : Int) (h' : zHp), I_230 y1 y2 y3 y4 y5 y6 h' → wpN G d M_X11_lays 230 [(0, vR 343), (1, vI y1), (2, vI y2), (3, vI y3), (4, vI y4), (5, vI y5), (6, vI y6)] [] h' Q) 
    (hv : (wpN G (d - 1) M_X11_of 0 (zar 0 [vR 343, vI p1, vI p2, vI 4]) [] h (qI (fun z1 h2 => zSh h2 ∧ (((gI h2 343 31) ≠ 60 → ((-2147483648 ≤ (gI h2 343 33) + z1 ∧ (gI h2 343 33) + z1 ≤ 2147483647) ∧ (wpN G (d - 1) M_X11_size 0 (zar 0 [vR 343]) [] h2 (qI (fun z6 h7 => zSh h7 ∧ ((((gI h2 343 33) + z1) ≤ z6 → (wpN G (d - 1) M_X11_of 0 (zar 0 [vR 343, vI p1, vI p2, vI 0]) [] h7 (qI (fun z11 h12 => zSh h12 ∧ ((z11 ≠ 2 → (((0 : Int) ≤ (gI h12 343 31) ∧ (gI h12 343 31) < ((60 : Nat) : Int)) ∧ (∀ h16 : zHp, h16 = sI h12 354 (gI h12 343 31).toNat (gI h12 343 33) → (((0 : Int) ≤ (gI h16 343 31) ∧ (gI h16 343 31) < ((60 : Nat) : Int)) ∧ (∀ h18 : zHp, h18 = sI h16 355 (gI h16 343 31).toNat z1 → (wpN G (d - 1) M_X11_of 0 (zar 0 [vR 343, vI p1, vI p2, vI 5]) [] h18 (qI (fun z21 h22 => zSh h22 ∧ (((0 : Int) ≤ (gI h18 343 31) ∧ (gI h18 343 31) < ((60 : Nat) : Int)) ∧ (∀ h25 : zHp, h25 = sI h22 356 (gI h18 343 31).toNat z21 → (wpN G (d - 1) M_X11_of 0 (zar 0 [vR 343, vI p1, vI p2, vI 6]) [] h25 (qI (fun z28 h29 => zSh h29 ∧ (((0 : Int) ≤ (gI h25 343 31) ∧ (gI h25 343 31) < ((60 : Nat) : Int)) ∧ (∀ h32 : zHp, h32 = sI h29 357 (gI h25 343 31).toNat z28 → (((0 : Int) ≤ (gI h32 343 31) ∧ (gI h32 343 31) < ((60 : Nat) : Int)) ∧ (∀ h35 : zHp, h35 = sI h32 358 (gI h32 343 31).toNat (-1009) → (((0 : Int) ≤ (gI h35 343 31) ∧ (gI h35 343 31) < ((60 : Nat) : Int)) ∧ (∀ h38 : zHp, h38 = sI h35 359 (gI h35 343 31).toNat (-1009) → ((-2147483648 ≤ (gI h38 343 41) + 1 ∧ (gI h38 343 41) + 1 ≤ 2147483647) ∧ (((0 : Int) ≤ (gI h38 343 31) ∧ (gI h38 343 31) < ((60 : Nat) : Int)) ∧ (∀ h40 : zHp, h40 = sI h38 360 (gI h38 343 31).toNat ((gI h38 343 41) + 1) → (zSh h40 → I_230 p1 p2 p3 z1 0 0 h40))))))))))))))))))))))) ∧ (z11 = 2 → (((0 : Int) ≤ (gI h12 343 31) ∧ (gI h12 343 31) < ((60 : Nat) : Int)) ∧ (∀ h42 : zHp, h42 = sI h12 354 (gI h12 343 31).toNat (gI h12 343 33) → (((0 : Int) ≤ (gI h42 343 31) ∧ (gI h42 343 31) < ((60 : Nat) : Int)) ∧ (∀ h44 : zHp, h44 = sI h42 355 (gI h42 343 31).toNat z1 → (wpN G (d - 1) M_X11_of 0 (zar 0 [vR 343, vI p1, vI p2, vI 10]) [] h44 (qI (fun z47 h48 => zSh h48 ∧ (((0 : Int) ≤ (gI h44 343 31) ∧ (gI h44 343 31) < ((60 : Nat) : Int)) ∧ (∀ h51 : zHp, h51 = sI h48 356 (gI h44 343 31).toNat z47 → (((0 : Int) ≤ (gI h51 343 31) ∧ (gI h51 343 31) < ((60 : Nat) : Int)) ∧ (∀ h54 : zHp, h54 = sI h51 357 (gI h51 343 31).toNat 0 → (wpN G (d - 1) M_X11_of 0 (zar 0 [vR 343, vI p1, vI p2, vI 11]) [] h54 (qI (fun z57 h58 => zSh h58 ∧ (((0 : Int) ≤ z57 ∧ z57 < ((24 : Nat) : Int)) ∧ (((0 : Int) ≤ (gI h54 343 31) ∧ (gI h54 343 31) < ((60 : Nat) : Int)) ∧ (∀ h61 : zHp, h61 = sI h58 358 (gI h54 343 31).toNat (gI h58 363 z57.toNat) → (wpN G (d - 1) M_X11_of 0 (zar 0 [vR 343, vI p1, vI p2, vI 12]) [] h61 (qI (fun z64 h65 => zSh h65 ∧ (((0 : Int) ≤ z64 ∧ z64 < ((24 : Nat) : Int)) ∧ (((0 : Int) ≤ (gI h61 343 31) ∧ (gI h61 343 31) < ((60 : Nat) : Int)) ∧ (∀ h68 : zHp, h68 = sI h65 359 (gI h61 343 31).toNat (gI h65 364 z64.toNat) → ((-2147483648 ≤ (gI h68 343 41) + 1 ∧ (gI h68 343 41) + 1 ≤ 2147483647) ∧ (((0 : Int) ≤ (gI h68 343 31) ∧ (gI h68 343 31) < ((60 : Nat) : Int)) ∧ (∀ h70 : zHp, h70 = sI h68 360 (gI h68 343 31).toNat ((gI h68 343 41) + 1) → (zSh h70 → I_230 p1 p2 p3 z1 1 0 h70))))))))))))))))))))))))))))))))) ∧ (z6 < ((gI h2 343 33) + z1) → (∀ h72 : zHp, h72 = sI h7 343 32 1 → Q (some (vI 0)) h72)))))))) ∧ ((gI h2 343 31) = 60 → (∀ h74 : zHp, h74 = sI h2 343 32 2 → Q (some (vI 0)) h74))))))) : wpN G d M_X11_lays 0 [(0, vR 343), (1, vI p1), (2, vI p2), (3, vI p3)] [] h Q := by
  refine wq_aload_n 0 rfl rfl dX11_lays_0 ?_
  refine wq_iload_n 1 rfl rfl dX11_lays_1 ?_
  refine wq_iload_n 2 rfl rfl dX11_lays_2 ?_
  refine wq_iconst (z := 4) (zlit rfl) dX11_lays_3 ?_
  refine wN_V (As := [vI p1, vI p2, vI 4]) vm_X11_of lk_X11_139 tT_343 rfl rfl (Nat.le_of_ble_eq_true rfl) (Nat.le_of_ble_eq_true rfl) (d' := d - 1) (by omega) dX11_lays_4 hv (fun v9 h2 q3 => ?_)
  obtain ⟨z1, rfl, hS4, q3⟩ := q3
  refine wq_st (st' := [vI z1]) rfl ?_
  refine wq_istore (ls' := [(0, vR 343), (1, vI p1), (2, vI p2), (3, vI p3), (4, vI z1)]) (by decide) rfl dX11_lays_7 ?_
  refine wq_aload_n 0 rfl rfl dX11_lays_9 ?_
  refine wq_getI fk_X11_235 tT_343 (fun _ _ _ => rfl) dX11_lays_10 ?_
  refine wq_bipush (z := 60) (zlit rfl) rfl dX11_lays_13 ?_
  refine wq_icmp_ne 25 rfl dX11_lays_15 (fun c5 => ?_) (fun c5 => ?_)
  · refine wq_aload_n 0 rfl rfl dX11_lays_25 ?_
    refine wq_getI fk_X11_241 tT_343 (fun _ _ _ => rfl) dX11_lays_26 ?_
    refine wq_iload 4 rfl dX11_lays_29 ?_
    refine wq_iadd (q3.1 c5).1 dX11_lays_31 ?_
    refine wq_aload_n 0 rfl rfl dX11_lays_32 ?_
    refine wN_V (As := []) vm_X11_size lk_X11_218 tT_343 rfl rfl (Nat.le_of_ble_eq_true rfl) (Nat.le_of_ble_eq_true rfl) (d' := d - 1) (by omega) dX11_lays_33 (q3.1 c5).2 (fun v9 h7 q8 => ?_)
    obtain ⟨z6, rfl, hS9, q8⟩ := q8
    refine wq_st (st' := [vI z6, vI ((gI h2 343 33) + z1)]) rfl ?_
    refine wq_icmp_le 46 rfl dX11_lays_36 (fun c10 => ?_) (fun c10 => ?_)
    · refine wq_aload_n 0 rfl rfl dX11_lays_46 ?_
      refine wq_iload_n 1 rfl rfl dX11_lays_47 ?_
      refine wq_iload_n 2 rfl rfl dX11_lays_48 ?_
      refine wq_iconst (z := 0) (zlit rfl) dX11_lays_49 ?_
      refine wN_V (As := [vI p1, vI p2, vI 0]) vm_X11_of lk_X11_139 tT_343 rfl rfl (Nat.le_of_ble_eq_true rfl) (Nat.le_of_ble_eq_true rfl) (d' := d - 1) (by omega) dX11_lays_50 (q8.1 c10) (fun v9 h12 q13 => ?_)
      obtain ⟨z11, rfl, hS14, q13⟩ := q13
      refine wq_st (st' := [vI z11]) rfl ?_
      refine wq_iconst (z := 2) (zlit rfl) dX11_lays_53 ?_
      refine wq_icmp_ne 61 rfl dX11_lays_54 (fun c15 => ?_) (fun c15 => ?_)
      · refine wq_iconst (z := 0) (zlit rfl) dX11_lays_61 ?_
        refine wq_istore (ls' := [(0, vR 343), (1, vI p1), (2, vI p2), (3, vI p3), (4, vI z1), (5, vI 0)]) (by decide) rfl dX11_lays_62 ?_
        refine wq_aload_n 0 rfl rfl dX11_lays_64 ?_
        refine wq_getR fk_X11_40 tT_343 (fun _ _ _ => rfl) (sh_11_23 hS14) (by decide) dX11_lays_65 ?_
        refine wq_aload_n 0 rfl rfl dX11_lays_68 ?_
        refine wq_getI fk_X11_235 tT_343 (fun _ _ _ => rfl) dX11_lays_69 ?_
        refine wq_aload_n 0 rfl rfl dX11_lays_72 ?_
        refine wq_getI fk_X11_241 tT_343 (fun _ _ _ => rfl) dX11_lays_73 ?_
        refine wq_iast tT_354 (q13.1 c15).1.1 (q13.1 c15).1.2 dX11_lays_76 ?_
        refine wq_toph (fun h16 e17 => ?_)
        have sh16 : zSh h16 := zSh_of e17 hS14
        refine wq_aload_n 0 rfl rfl dX11_lays_77 ?_
        refine wq_getR fk_X11_43 tT_343 (fun _ _ _ => rfl) (sh_11_24 sh16) (by decide) dX11_lays_78 ?_
        refine wq_aload_n 0 rfl rfl dX11_lays_81 ?_
        refine wq_getI fk_X11_235 tT_343 (fun _ _ _ => rfl) dX11_lays_82 ?_
        refine wq_iload 4 rfl dX11_lays_85 ?_
        refine wq_iast tT_355 ((q13.1 c15).2 h16 e17).1.1 ((q13.1 c15).2 h16 e17).1.2 dX11_lays_87 ?_
        refine wq_toph (fun h18 e19 => ?_)
        have sh18 : zSh h18 := zSh_of e19 sh16
        refine wq_aload_n 0 rfl rfl dX11_lays_88 ?_
        refine wq_getR fk_X11_46 tT_343 (fun _ _ _ => rfl) (sh_11_25 sh18) (by decide) dX11_lays_89 ?_
        refine wq_aload_n 0 rfl rfl dX11_lays_92 ?_
        refine wq_getI fk_X11_235 tT_343 (fun _ _ _ => rfl) dX11_lays_93 ?_
        refine wq_iload 5 rfl dX11_lays_96 ?_
        refine wq_if_eq 112 rfl dX11_lays_98 (fun _ => ?_) (fun c20 => absurd c20 (by decide))
        refine wq_aload_n 0 rfl rfl dX11_lays_112 ?_
        refine wq_iload_n 1 rfl rfl dX11_lays_113 ?_
        refine wq_iload_n 2 rfl rfl dX11_lays_114 ?_
        refine wq_iconst (z := 5) (zlit rfl) dX11_lays_115 ?_
        refine wN_V (As := [vI p1, vI p2, vI 5]) vm_X11_of lk_X11_139 tT_343 rfl rfl (Nat.le_of_ble_eq_true rfl) (Nat.le_of_ble_eq_true rfl) (d' := d - 1) (by omega) dX11_lays_116 (((q13.1 c15).2 h16 e17).2 h18 e19) (fun v9 h22 q23 => ?_)
        obtain ⟨z21, rfl, hS24, q23⟩ := q23
        refine wq_st (st' := [vI z21, vI (gI h18 343 31), vR 356]) rfl ?_
        refine wq_iast tT_356 q23.1.1 q23.1.2 dX11_lays_119 ?_
        refine wq_toph (fun h25 e26 => ?_)
        have sh25 : zSh h25 := zSh_of e26 hS24
        refine wq_aload_n 0 rfl rfl dX11_lays_120 ?_
        refine wq_getR fk_X11_49 tT_343 (fun _ _ _ => rfl) (sh_11_26 sh25) (by decide) dX11_lays_121 ?_
        refine wq_aload_n 0 rfl rfl dX11_lays_124 ?_
        refine wq_getI fk_X11_235 tT_343 (fun _ _ _ => rfl) dX11_lays_125 ?_
        refine wq_iload 5 rfl dX11_lays_128 ?_
        refine wq_if_eq 137 rfl dX11_lays_130 (fun _ => ?_) (fun c27 => absurd c27 (by decide))
        refine wq_aload_n 0 rfl rfl dX11_lays_137 ?_
        refine wq_iload_n 1 rfl rfl dX11_lays_138 ?_
        refine wq_iload_n 2 rfl rfl dX11_lays_139 ?_
        refine wq_bipush (z := 6) (zlit rfl) rfl dX11_lays_140 ?_
        refine wN_V (As := [vI p1, vI p2, vI 6]) vm_X11_of lk_X11_139 tT_343 rfl rfl (Nat.le_of_ble_eq_true rfl) (Nat.le_of_ble_eq_true rfl) (d' := d - 1) (by omega) dX11_lays_142 (q23.2 h25 e26) (fun v9 h29 q30 => ?_)
        obtain ⟨z28, rfl, hS31, q30⟩ := q30
        refine wq_st (st' := [vI z28, vI (gI h25 343 31), vR 357]) rfl ?_
        refine wq_iast tT_357 q30.1.1 q30.1.2 dX11_lays_145 ?_
        refine wq_toph (fun h32 e33 => ?_)
        have sh32 : zSh h32 := zSh_of e33 hS31
        refine wq_aload_n 0 rfl rfl dX11_lays_146 ?_
        refine wq_getR fk_X11_52 tT_343 (fun _ _ _ => rfl) (sh_11_27 sh32) (by decide) dX11_lays_147 ?_
        refine wq_aload_n 0 rfl rfl dX11_lays_150 ?_
        refine wq_getI fk_X11_235 tT_343 (fun _ _ _ => rfl) dX11_lays_151 ?_
        refine wq_iload 5 rfl dX11_lays_154 ?_
        refine wq_if_eq 175 rfl dX11_lays_156 (fun _ => ?_) (fun c34 => absurd c34 (by decide))
        refine wq_sipush (z := -1009) (zlit rfl) rfl dX11_lays_175 ?_
        refine wq_iast tT_358 (q30.2 h32 e33).1.1 (q30.2 h32 e33).1.2 dX11_lays_178 ?_
        refine wq_toph (fun h35 e36 => ?_)
        have sh35 : zSh h35 := zSh_of e36 sh32
        refine wq_aload_n 0 rfl rfl dX11_lays_179 ?_
        refine wq_getR fk_X11_55 tT_343 (fun _ _ _ => rfl) (sh_11_28 sh35) (by decide) dX11_lays_180 ?_
        refine wq_aload_n 0 rfl rfl dX11_lays_183 ?_
        refine wq_getI fk_X11_235 tT_343 (fun _ _ _ => rfl) dX11_lays_184 ?_
        refine wq_iload 5 rfl dX11_lays_187 ?_
        refine wq_if_eq 208 rfl dX11_lays_189 (fun _ => ?_) (fun c37 => absurd c37 (by decide))
        refine wq_sipush (z := -1009) (zlit rfl) rfl dX11_lays_208 ?_
        refine wq_iast tT_359 ((q30.2 h32 e33).2 h35 e36).1.1 ((q30.2 h32 e33).2 h35 e36).1.2 dX11_lays_211 ?_
        refine wq_toph (fun h38 e39 => ?_)
        have sh38 : zSh h38 := zSh_of e39 sh35
        refine wq_aload_n 0 rfl rfl dX11_lays_212 ?_
        refine wq_getR fk_X11_58 tT_343 (fun _ _ _ => rfl) (sh_11_29 sh38) (by decide) dX11_lays_213 ?_
        refine wq_aload_n 0 rfl rfl dX11_lays_216 ?_
        refine wq_getI fk_X11_235 tT_343 (fun _ _ _ => rfl) dX11_lays_217 ?_
        refine wq_aload_n 0 rfl rfl dX11_lays_220 ?_
        refine wq_getI fk_X11_244 tT_343 (fun _ _ _ => rfl) dX11_lays_221 ?_
        refine wq_iconst (z := 1) (zlit rfl) dX11_lays_224 ?_
        refine wq_iadd (((q30.2 h32 e33).2 h35 e36).2 h38 e39).1 dX11_lays_225 ?_
        refine wq_iast tT_360 (((q30.2 h32 e33).2 h35 e36).2 h38 e39).2.1.1 (((q30.2 h32 e33).2 h35 e36).2 h38 e39).2.1.2 dX11_lays_226 ?_
        refine wq_toph (fun h40 e41 => ?_)
        have sh40 : zSh h40 := zSh_of e41 sh38
        refine wq_iconst (z := 0) (zlit rfl) dX11_lays_227 ?_
        refine wq_istore (ls' := [(0, vR 343), (1, vI p1), (2, vI p2), (3, vI p3), (4, vI z1), (5, vI 0), (6, vI 0)]) (by decide) rfl dX11_lays_228 ?_
        exact wq_pick [0, 1, 2, 3, 4, 5, 6] rfl (hI_230 p1 p2 p3 z1 0 0 h40 (((((q30.2 h32 e33).2 h35 e36).2 h38 e39).2.2 h40 e41) sh40))
      · refine wq_iconst (z := 1) (zlit rfl) dX11_lays_57 ?_
        refine wq_goto 62 rfl dX11_lays_58 ?_
        refine wq_istore (ls' := [(0, vR 343), (1, vI p1), (2, vI p2), (3, vI p3), (4, vI z1), (5, vI 1)]) (by decide) rfl dX11_lays_62 ?_
        refine wq_aload_n 0 rfl rfl dX11_lays_64 ?_
        refine wq_getR fk_X11_40 tT_343 (fun _ _ _ => rfl) (sh_11_23 hS14) (by decide) dX11_lays_65 ?_
        refine wq_aload_n 0 rfl rfl dX11_lays_68 ?_
        refine wq_getI fk_X11_235 tT_343 (fun _ _ _ => rfl) dX11_lays_69 ?_
        refine wq_aload_n 0 rfl rfl dX11_lays_72 ?_
        refine wq_getI fk_X11_241 tT_343 (fun _ _ _ => rfl) dX11_lays_73 ?_
        refine wq_iast tT_354 (q13.2 c15).1.1 (q13.2 c15).1.2 dX11_lays_76 ?_
        refine wq_toph (fun h42 e43 => ?_)
        have sh42 : zSh h42 := zSh_of e43 hS14
        refine wq_aload_n 0 rfl rfl dX11_lays_77 ?_
        refine wq_getR fk_X11_43 tT_343 (fun _ _ _ => rfl) (sh_11_24 sh42) (by decide) dX11_lays_78 ?_
        refine wq_aload_n 0 rfl rfl dX11_lays_81 ?_
        refine wq_getI fk_X11_235 tT_343 (fun _ _ _ => rfl) dX11_lays_82 ?_
        refine wq_iload 4 rfl dX11_lays_85 ?_
        refine wq_iast tT_355 ((q13.2 c15).2 h42 e43).1.1 ((q13.2 c15).2 h42 e43).1.2 dX11_lays_87 ?_
        refine wq_toph (fun h44 e45 => ?_)
        have sh44 : zSh h44 := zSh_of e45 sh42
        refine wq_aload_n 0 rfl rfl dX11_lays_88 ?_
        refine wq_getR fk_X11_46 tT_343 (fun _ _ _ => rfl) (sh_11_25 sh44) (by decide) dX11_lays_89 ?_
        refine wq_aload_n 0 rfl rfl dX11_lays_92 ?_
        refine wq_getI fk_X11_235 tT_343 (fun _ _ _ => rfl) dX11_lays_93 ?_
        refine wq_iload 5 rfl dX11_lays_96 ?_
        refine wq_if_eq 112 rfl dX11_lays_98 (fun c46 => absurd c46 (by decide)) (fun _ => ?_)
        refine wq_aload_n 0 rfl rfl dX11_lays_101 ?_
        refine wq_iload_n 1 rfl rfl dX11_lays_102 ?_
        refine wq_iload_n 2 rfl rfl dX11_lays_103 ?_
        refine wq_bipush (z := 10) (zlit rfl) rfl dX11_lays_104 ?_
        refine wN_V (As := [vI p1, vI p2, vI 10]) vm_X11_of lk_X11_139 tT_343 rfl rfl (Nat.le_of_ble_eq_true rfl) (Nat.le_of_ble_eq_true rfl) (d' := d - 1) (by omega) dX11_lays_106 (((q13.2 c15).2 h42 e43).2 h44 e45) (fun v9 h48 q49 => ?_)
        obtain ⟨z47, rfl, hS50, q49⟩ := q49
        refine wq_st (st' := [vI z47, vI (gI h44 343 31), vR 356]) rfl ?_
        refine wq_goto 119 rfl dX11_lays_109 ?_
        refine wq_iast tT_356 q49.1.1 q49.1.2 dX11_lays_119 ?_
        refine wq_toph (fun h51 e52 => ?_)
        have sh51 : zSh h51 := zSh_of e52 hS50
        refine wq_aload_n 0 rfl rfl dX11_lays_120 ?_
        refine wq_getR fk_X11_49 tT_343 (fun _ _ _ => rfl) (sh_11_26 sh51) (by decide) dX11_lays_121 ?_
        refine wq_aload_n 0 rfl rfl dX11_lays_124 ?_
        refine wq_getI fk_X11_235 tT_343 (fun _ _ _ => rfl) dX11_lays_125 ?_
        refine wq_iload 5 rfl dX11_lays_128 ?_
        refine wq_if_eq 137 rfl dX11_lays_130 (fun c53 => absurd c53 (by decide)) (fun _ => ?_)
        refine wq_iconst (z := 0) (zlit rfl) dX11_lays_133 ?_
        refine wq_goto 145 rfl dX11_lays_134 ?_
        refine wq_iast tT_357 (q49.2 h51 e52).1.1 (q49.2 h51 e52).1.2 dX11_lays_145 ?_
        refine wq_toph (fun h54 e55 => ?_)
        have sh54 : zSh h54 := zSh_of e55 sh51
        refine wq_aload_n 0 rfl rfl dX11_lays_146 ?_
        refine wq_getR fk_X11_52 tT_343 (fun _ _ _ => rfl) (sh_11_27 sh54) (by decide) dX11_lays_147 ?_
        refine wq_aload_n 0 rfl rfl dX11_lays_150 ?_
        refine wq_getI fk_X11_235 tT_343 (fun _ _ _ => rfl) dX11_lays_151 ?_
        refine wq_iload 5 rfl dX11_lays_154 ?_
        refine wq_if_eq 175 rfl dX11_lays_156 (fun c56 => absurd c56 (by decide)) (fun _ => ?_)
        refine wq_aload_n 0 rfl rfl dX11_lays_159 ?_
        refine wq_getR fk_X11_68 tT_343 (fun _ _ _ => rfl) (sh_11_36 sh54) (by decide) dX11_lays_160 ?_
        refine wq_aload_n 0 rfl rfl dX11_lays_163 ?_
        refine wq_iload_n 1 rfl rfl dX11_lays_164 ?_
        refine wq_iload_n 2 rfl rfl dX11_lays_165 ?_
        refine wq_bipush (z := 11) (zlit rfl) rfl dX11_lays_166 ?_
        refine wN_V (As := [vI p1, vI p2, vI 11]) vm_X11_of lk_X11_139 tT_343 rfl rfl (Nat.le_of_ble_eq_true rfl) (Nat.le_of_ble_eq_true rfl) (d' := d - 1) (by omega) dX11_lays_168 ((q49.2 h51 e52).2 h54 e55) (fun v9 h58 q59 => ?_)
        obtain ⟨z57, rfl, hS60, q59⟩ := q59
        refine wq_st (st' := [vI z57, vR 363, vI (gI h54 343 31), vR 358]) rfl ?_
        refine wq_iald tT_363 q59.1.1 q59.1.2 dX11_lays_171 ?_
        refine wq_goto 178 rfl dX11_lays_172 ?_
        refine wq_iast tT_358 q59.2.1.1 q59.2.1.2 dX11_lays_178 ?_
        refine wq_toph (fun h61 e62 => ?_)
        have sh61 : zSh h61 := zSh_of e62 hS60
        refine wq_aload_n 0 rfl rfl dX11_lays_179 ?_
        refine wq_getR fk_X11_55 tT_343 (fun _ _ _ => rfl) (sh_11_28 sh61) (by decide) dX11_lays_180 ?_
        refine wq_aload_n 0 rfl rfl dX11_lays_183 ?_
        refine wq_getI fk_X11_235 tT_343 (fun _ _ _ => rfl) dX11_lays_184 ?_
        refine wq_iload 5 rfl dX11_lays_187 ?_
        refine wq_if_eq 208 rfl dX11_lays_189 (fun c63 => absurd c63 (by decide)) (fun _ => ?_)
        refine wq_aload_n 0 rfl rfl dX11_lays_192 ?_
        refine wq_getR fk_X11_71 tT_343 (fun _ _ _ => rfl) (sh_11_37 sh61) (by decide) dX11_lays_193 ?_
        refine wq_aload_n 0 rfl rfl dX11_lays_196 ?_
        refine wq_iload_n 1 rfl rfl dX11_lays_197 ?_
        refine wq_iload_n 2 rfl rfl dX11_lays_198 ?_
        refine wq_bipush (z := 12) (zlit rfl) rfl dX11_lays_199 ?_
        refine wN_V (As := [vI p1, vI p2, vI 12]) vm_X11_of lk_X11_139 tT_343 rfl rfl (Nat.le_of_ble_eq_true rfl) (Nat.le_of_ble_eq_true rfl) (d' := d - 1) (by omega) dX11_lays_201 (q59.2.2 h61 e62) (fun v9 h65 q66 => ?_)
        obtain ⟨z64, rfl, hS67, q66⟩ := q66
        refine wq_st (st' := [vI z64, vR 364, vI (gI h61 343 31), vR 359]) rfl ?_
        refine wq_iald tT_364 q66.1.1 q66.1.2 dX11_lays_204 ?_
        refine wq_goto 211 rfl dX11_lays_205 ?_
        refine wq_iast tT_359 q66.2.1.1 q66.2.1.2 dX11_lays_211 ?_
        refine wq_toph (fun h68 e69 => ?_)
        have sh68 : zSh h68 := zSh_of e69 hS67
        refine wq_aload_n 0 rfl rfl dX11_lays_212 ?_
        refine wq_getR fk_X11_58 tT_343 (fun _ _ _ => rfl) (sh_11_29 sh68) (by decide) dX11_lays_213 ?_
        refine wq_aload_n 0 rfl rfl dX11_lays_216 ?_
        refine wq_getI fk_X11_235 tT_343 (fun _ _ _ => rfl) dX11_lays_217 ?_
        refine wq_aload_n 0 rfl rfl dX11_lays_220 ?_
        refine wq_getI fk_X11_244 tT_343 (fun _ _ _ => rfl) dX11_lays_221 ?_
        refine wq_iconst (z := 1) (zlit rfl) dX11_lays_224 ?_
        refine wq_iadd (q66.2.2 h68 e69).1 dX11_lays_225 ?_
        refine wq_iast tT_360 (q66.2.2 h68 e69).2.1.1 (q66.2.2 h68 e69).2.1.2 dX11_lays_226 ?_
        refine wq_toph (fun h70 e71 => ?_)
        have sh70 : zSh h70 := zSh_of e71 sh68
        refine wq_iconst (z := 0) (zlit rfl) dX11_lays_227 ?_
        refine wq_istore (ls' := [(0, vR 343), (1, vI p1), (2, vI p2), (3, vI p3), (4, vI z1), (5, vI 1), (6, vI 0)]) (by decide) rfl dX11_lays_228 ?_
        exact wq_pick [0, 1, 2, 3, 4, 5, 6] rfl (hI_230 p1 p2 p3 z1 1 0 h70 (((q66.2.2 h68 e69).2.2 h70 e71) sh70))
    · refine wq_aload_n 0 rfl rfl dX11_lays_39 ?_
      refine wq_iconst (z := 1) (zlit rfl) dX11_lays_40 ?_
      refine wq_putI fk_X11_238 tT_343 rfl rfl dX11_lays_41 ?_
      refine wq_toph (fun h72 e73 => ?_)
      have sh72 : zSh h72 := zSh_of e73 hS9
      refine wq_iconst (z := 0) (zlit rfl) dX11_lays_44 ?_
      exact wp_zret (Or.inl rfl) rfl dX11_lays_45 ((q8.2 c10) h72 e73)
  · refine wq_aload_n 0 rfl rfl dX11_lays_18 ?_
    refine wq_iconst (z := 2) (zlit rfl) dX11_lays_19 ?_
    refine wq_putI fk_X11_238 tT_343 rfl rfl dX11_lays_20 ?_
    refine wq_toph (fun h74 e75 => ?_)
    have sh74 : zSh h74 := zSh_of e75 hS4
    refine wq_iconst (z := 0) (zlit rfl) dX11_lays_23 ?_
    exact wp_zret (Or.inl rfl) rfl dX11_lays_24 ((q3.2 c5) h74 e75)
theorem vc_X11_lays_230 {G : zG} {d : Nat} {Q : Option zV → zHp → Prop} (y1 : Int) (y2 : Int) (y3 : Int) (y4 : Int) (y5 : Int) (y6 : Int) (h : zHp) (hS : zSh h) (hd : 1 ≤ d) (I_230 : Int → Int → Int → Int → Int → Int → zHp → Prop) (hI_230 : ∀ (y1 : Int) (y2 : Int) (y3 : Int) (y4 : Int) (y5 : Int) (y6 : Int) (h' : zHp), I_230 y1 y2 y3 y4 y5 y6 h' → wpN G d M_X11_lays 230 [(0, vR 343), (1, vI y1), (2, vI y2), (3, vI y3), (4, vI y4), (5, vI y5), (6, vI y6)] [] h' Q) 
    (hv : (((gI h 343 41) ≤ y6 → ((-2147483648 ≤ 4 * (gI h 343 31) ∧ 4 * (gI h 343 31) ≤ 2147483647) ∧ ((-2147483648 ≤ (4 * (gI h 343 31)) + (gI h 343 41) ∧ (4 * (gI h 343 31)) + (gI h 343 41) ≤ 2147483647) ∧ ((-2147483648 ≤ 1000 * y3 ∧ 1000 * y3 ≤ 2147483647) ∧ (wpN G (d - 1) M_X11_of 0 (zar 0 [vR 343, vI y1, vI y2, vI 1]) [] h (qI (fun z2 h3 => zSh h3 ∧ ((-2147483648 ≤ (1000 * y3) + z2 ∧ (1000 * y3) + z2 ≤ 2147483647) ∧ (((0 : Int) ≤ ((4 * (gI h 343 31)) + (gI h 343 41)) ∧ ((4 * (gI h 343 31)) + (gI h 343 41)) < ((240 : Nat) : Int)) ∧ (∀ h6 : zHp, h6 = sI h3 361 ((4 * (gI h 343 31)) + (gI h 343 41)).toNat ((1000 * y3) + z2) → ((-2147483648 ≤ (gI h6 343 31) + 1 ∧ (gI h6 343 31) + 1 ≤ 2147483647) ∧ (∀ h8 : zHp, h8 = sI h6 343 31 ((gI h6 343 31) + 1) → ((-2147483648 ≤ (gI h8 343 33) + y4 ∧ (gI h8 343 33) + y4 ≤ 2147483647) ∧ (∀ h10 : zHp, h10 = sI h8 343 33 ((gI h8 343 33) + y4) → Q (some (vI 1)) h10)))))))))))))) ∧ (y6 < (gI h 343 41) → ((-2147483648 ≤ 4 * (gI h 343 31) ∧ 4 * (gI h 343 31) ≤ 2147483647) ∧ ((-2147483648 ≤ (4 * (gI h 343 31)) + y6 ∧ (4 * (gI h 343 31)) + y6 ≤ 2147483647) ∧ (((0 : Int) ≤ y6 ∧ y6 < ((4 : Nat) : Int)) ∧ ((-2147483648 ≤ 1000 * (gI h 367 y6.toNat) ∧ 1000 * (gI h 367 y6.toNat) ≤ 2147483647) ∧ (((0 : Int) ≤ y6 ∧ y6 < ((4 : Nat) : Int)) ∧ (wpN G (d - 1) M_X11_of 0 (zar 0 [vR 343, vI y1, vI (gI h 365 y6.toNat), vI 1]) [] h (qI (fun z12 h13 => zSh h13 ∧ ((-2147483648 ≤ (1000 * (gI h 367 y6.toNat)) + z12 ∧ (1000 * (gI h 367 y6.toNat)) + z12 ≤ 2147483647) ∧ (((0 : Int) ≤ ((4 * (gI h 343 31)) + y6) ∧ ((4 * (gI h 343 31)) + y6) < ((240 : Nat) : Int)) ∧ (∀ h16 : zHp, h16 = sI h13 361 ((4 * (gI h 343 31)) + y6).toNat ((1000 * (gI h 367 y6.toNat)) + z12) → ((-2147483648 ≤ y6 + 1 ∧ y6 + 1 ≤ 2147483647) ∧ ∀ x18 : Int, x18 = y6 + 1 → (zSh h16 → I_230 y1 y2 y3 y4 y5 x18 h16)))))))))))))))) : wpN G d M_X11_lays 230 [(0, vR 343), (1, vI y1), (2, vI y2), (3, vI y3), (4, vI y4), (5, vI y5), (6, vI y6)] [] h Q := by
  refine wq_iload 6 rfl dX11_lays_230 ?_
  refine wq_aload_n 0 rfl rfl dX11_lays_232 ?_
  refine wq_getI fk_X11_244 tT_343 (fun _ _ _ => rfl) dX11_lays_233 ?_
  refine wq_icmp_ge 284 rfl dX11_lays_236 (fun c1 => ?_) (fun c1 => ?_)
  · refine wq_aload_n 0 rfl rfl dX11_lays_284 ?_
    refine wq_getR fk_X11_61 tT_343 (fun _ _ _ => rfl) (sh_11_30 hS) (by decide) dX11_lays_285 ?_
    refine wq_iconst (z := 4) (zlit rfl) dX11_lays_288 ?_
    refine wq_aload_n 0 rfl rfl dX11_lays_289 ?_
    refine wq_getI fk_X11_235 tT_343 (fun _ _ _ => rfl) dX11_lays_290 ?_
    refine wq_imul (hv.1 c1).1 dX11_lays_293 ?_
    refine wq_aload_n 0 rfl rfl dX11_lays_294 ?_
    refine wq_getI fk_X11_244 tT_343 (fun _ _ _ => rfl) dX11_lays_295 ?_
    refine wq_iadd (hv.1 c1).2.1 dX11_lays_298 ?_
    refine wq_sipush (z := 1000) (zlit rfl) rfl dX11_lays_299 ?_
    refine wq_iload_n 3 rfl rfl dX11_lays_302 ?_
    refine wq_imul (hv.1 c1).2.2.1 dX11_lays_303 ?_
    refine wq_aload_n 0 rfl rfl dX11_lays_304 ?_
    refine wq_iload_n 1 rfl rfl dX11_lays_305 ?_
    refine wq_iload_n 2 rfl rfl dX11_lays_306 ?_
    refine wq_iconst (z := 1) (zlit rfl) dX11_lays_307 ?_
    refine wN_V (As := [vI y1, vI y2, vI 1]) vm_X11_of lk_X11_139 tT_343 rfl rfl (Nat.le_of_ble_eq_true rfl) (Nat.le_of_ble_eq_true rfl) (d' := d - 1) (by omega) dX11_lays_308 (hv.1 c1).2.2.2 (fun v9 h3 q4 => ?_)
    obtain ⟨z2, rfl, hS5, q4⟩ := q4
    refine wq_st (st' := [vI z2, vI (1000 * y3), vI ((4 * (gI h 343 31)) + (gI h 343 41)), vR 361]) rfl ?_
    refine wq_iadd q4.1 dX11_lays_311 ?_
    refine wq_iast tT_361 q4.2.1.1 q4.2.1.2 dX11_lays_312 ?_
    refine wq_toph (fun h6 e7 => ?_)
    have sh6 : zSh h6 := zSh_of e7 hS5
    refine wq_aload_n 0 rfl rfl dX11_lays_313 ?_
    refine wq_dup rfl dX11_lays_314 ?_
    refine wq_getI fk_X11_235 tT_343 (fun _ _ _ => rfl) dX11_lays_315 ?_
    refine wq_iconst (z := 1) (zlit rfl) dX11_lays_318 ?_
    refine wq_iadd (q4.2.2 h6 e7).1 dX11_lays_319 ?_
    refine wq_putI fk_X11_235 tT_343 rfl rfl dX11_lays_320 ?_
    refine wq_toph (fun h8 e9 => ?_)
    have sh8 : zSh h8 := zSh_of e9 sh6
    refine wq_aload_n 0 rfl rfl dX11_lays_323 ?_
    refine wq_dup rfl dX11_lays_324 ?_
    refine wq_getI fk_X11_241 tT_343 (fun _ _ _ => rfl) dX11_lays_325 ?_
    refine wq_iload 4 rfl dX11_lays_328 ?_
    refine wq_iadd ((q4.2.2 h6 e7).2 h8 e9).1 dX11_lays_330 ?_
    refine wq_putI fk_X11_241 tT_343 rfl rfl dX11_lays_331 ?_
    refine wq_toph (fun h10 e11 => ?_)
    have sh10 : zSh h10 := zSh_of e11 sh8
    refine wq_iconst (z := 1) (zlit rfl) dX11_lays_334 ?_
    exact wp_zret (Or.inr rfl) rfl dX11_lays_335 (((q4.2.2 h6 e7).2 h8 e9).2 h10 e11)
  · refine wq_aload_n 0 rfl rfl dX11_lays_239 ?_
    refine wq_getR fk_X11_61 tT_343 (fun _ _ _ => rfl) (sh_11_30 hS) (by decide) dX11_lays_240 ?_
    refine wq_iconst (z := 4) (zlit rfl) dX11_lays_243 ?_
    refine wq_aload_n 0 rfl rfl dX11_lays_244 ?_
    refine wq_getI fk_X11_235 tT_343 (fun _ _ _ => rfl) dX11_lays_245 ?_
    refine wq_imul (hv.2 c1).1 dX11_lays_248 ?_
    refine wq_iload 6 rfl dX11_lays_249 ?_
    refine wq_iadd (hv.2 c1).2.1 dX11_lays_251 ?_
    refine wq_sipush (z := 1000) (zlit rfl) rfl dX11_lays_252 ?_
    refine wq_aload_n 0 rfl rfl dX11_lays_255 ?_
    refine wq_getR fk_X11_80 tT_343 (fun _ _ _ => rfl) (sh_11_40 hS) (by decide) dX11_lays_256 ?_
    refine wq_iload 6 rfl dX11_lays_259 ?_
    refine wq_iald tT_367 (hv.2 c1).2.2.1.1 (hv.2 c1).2.2.1.2 dX11_lays_261 ?_
    refine wq_imul (hv.2 c1).2.2.2.1 dX11_lays_262 ?_
    refine wq_aload_n 0 rfl rfl dX11_lays_263 ?_
    refine wq_iload_n 1 rfl rfl dX11_lays_264 ?_
    refine wq_aload_n 0 rfl rfl dX11_lays_265 ?_
    refine wq_getR fk_X11_74 tT_343 (fun _ _ _ => rfl) (sh_11_38 hS) (by decide) dX11_lays_266 ?_
    refine wq_iload 6 rfl dX11_lays_269 ?_
    refine wq_iald tT_365 (hv.2 c1).2.2.2.2.1.1 (hv.2 c1).2.2.2.2.1.2 dX11_lays_271 ?_
    refine wq_iconst (z := 1) (zlit rfl) dX11_lays_272 ?_
    refine wN_V (As := [vI y1, vI (gI h 365 y6.toNat), vI 1]) vm_X11_of lk_X11_139 tT_343 rfl rfl (Nat.le_of_ble_eq_true rfl) (Nat.le_of_ble_eq_true rfl) (d' := d - 1) (by omega) dX11_lays_273 (hv.2 c1).2.2.2.2.2 (fun v9 h13 q14 => ?_)
    obtain ⟨z12, rfl, hS15, q14⟩ := q14
    refine wq_st (st' := [vI z12, vI (1000 * (gI h 367 y6.toNat)), vI ((4 * (gI h 343 31)) + y6), vR 361]) rfl ?_
    refine wq_iadd q14.1 dX11_lays_276 ?_
    refine wq_iast tT_361 q14.2.1.1 q14.2.1.2 dX11_lays_277 ?_
    refine wq_toph (fun h16 e17 => ?_)
    have sh16 : zSh h16 := zSh_of e17 hS15
    refine z_nm (y6 + 1) (fun x18 e19 => ?_)
    refine wq_iinc (y := x18) (ls' := [(0, vR 343), (1, vI y1), (2, vI y2), (3, vI y3), (4, vI y4), (5, vI y5), (6, vI x18)]) 6 rfl e19.symm (by rw [e19]; exact (q14.2.2 h16 e17).1) (by decide) rfl dX11_lays_278 ?_
    refine wq_goto 230 rfl dX11_lays_281 ?_
    exact wq_pick [0, 1, 2, 3, 4, 5, 6] rfl (hI_230 y1 y2 y3 y4 y5 x18 h16 (((q14.2.2 h16 e17).2 x18 e19) sh16))
theorem dX11_countOf_0 : decode cX11_countOf 0 = .ok (.aload_n 0, 1) := by decide +kernel
theorem dX11_countOf_1 : decode cX11_countOf 1 = .ok (.iload_n 1, 1) := by decide +kernel
theorem dX11_countOf_2 : decode cX11_countOf 2 = .ok (.iload_n 2, 1) := by decide +kernel
theorem dX11_countOf_3 : decode cX11_countOf 3 = .ok (.bipush 7, 2) := by decide +kernel
theorem dX11_countOf_5 : decode cX11_countOf 5 = .ok (.invokevirtual 139, 3) := by decide +kernel
theorem dX11_countOf_8 : decode cX11_countOf 8 = .ok (.istore_n 3, 1) := by decide +kernel
theorem dX11_countOf_9 : decode cX11_countOf 9 = .ok (.aload_n 0, 1) := by decide +kernel
theorem dX11_countOf_10 : decode cX11_countOf 10 = .ok (.iload_n 1, 1) := by decide +kernel
theorem dX11_countOf_11 : decode cX11_countOf 11 = .ok (.iload_n 2, 1) := by decide +kernel
theorem dX11_countOf_12 : decode cX11_countOf 12 = .ok (.bipush 8, 2) := by decide +kernel
theorem dX11_countOf_14 : decode cX11_countOf 14 = .ok (.invokevirtual 139, 3) := by decide +kernel
theorem dX11_countOf_17 : decode cX11_countOf 17 = .ok (.istore 4, 2) := by decide +kernel
theorem dX11_countOf_19 : decode cX11_countOf 19 = .ok (.iload_n 3, 1) := by decide +kernel
theorem dX11_countOf_20 : decode cX11_countOf 20 = .ok (.iconst 2, 1) := by decide +kernel
theorem dX11_countOf_21 : decode cX11_countOf 21 = .ok (.if_icmp .ge 14, 3) := by decide +kernel
theorem dX11_countOf_24 : decode cX11_countOf 24 = .ok (.iload_n 3, 1) := by decide +kernel
theorem dX11_countOf_25 : decode cX11_countOf 25 = .ok (.ifCond .ne 7, 3) := by decide +kernel
theorem dX11_countOf_28 : decode cX11_countOf 28 = .ok (.iconst 1, 1) := by decide +kernel
theorem dX11_countOf_29 : decode cX11_countOf 29 = .ok (.goto 5, 3) := by decide +kernel
theorem dX11_countOf_32 : decode cX11_countOf 32 = .ok (.iload 4, 2) := by decide +kernel
theorem dX11_countOf_34 : decode cX11_countOf 34 = .ok (.ireturn, 1) := by decide +kernel
theorem dX11_countOf_35 : decode cX11_countOf 35 = .ok (.aload_n 0, 1) := by decide +kernel
theorem dX11_countOf_36 : decode cX11_countOf 36 = .ok (.getfield 64, 3) := by decide +kernel
theorem dX11_countOf_39 : decode cX11_countOf 39 = .ok (.iload 4, 2) := by decide +kernel
theorem dX11_countOf_41 : decode cX11_countOf 41 = .ok (.laload, 1) := by decide +kernel
theorem dX11_countOf_42 : decode cX11_countOf 42 = .ok (.lstore 5, 2) := by decide +kernel
theorem dX11_countOf_44 : decode cX11_countOf 44 = .ok (.lload 5, 2) := by decide +kernel
theorem dX11_countOf_46 : decode cX11_countOf 46 = .ok (.lconst 0, 1) := by decide +kernel
theorem dX11_countOf_47 : decode cX11_countOf 47 = .ok (.lcmp, 1) := by decide +kernel
theorem dX11_countOf_48 : decode cX11_countOf 48 = .ok (.ifCond .ge 7, 3) := by decide +kernel
theorem dX11_countOf_51 : decode cX11_countOf 51 = .ok (.iconst 0, 1) := by decide +kernel
theorem dX11_countOf_52 : decode cX11_countOf 52 = .ok (.goto 21, 3) := by decide +kernel
theorem dX11_countOf_55 : decode cX11_countOf 55 = .ok (.lload 5, 2) := by decide +kernel
theorem dX11_countOf_57 : decode cX11_countOf 57 = .ok (.ldc2_w 247, 3) := by decide +kernel
theorem dX11_countOf_60 : decode cX11_countOf 60 = .ok (.lcmp, 1) := by decide +kernel
theorem dX11_countOf_61 : decode cX11_countOf 61 = .ok (.ifCond .le 9, 3) := by decide +kernel
theorem dX11_countOf_64 : decode cX11_countOf 64 = .ok (.sipush 999, 3) := by decide +kernel
theorem dX11_countOf_67 : decode cX11_countOf 67 = .ok (.goto 6, 3) := by decide +kernel
theorem dX11_countOf_70 : decode cX11_countOf 70 = .ok (.lload 5, 2) := by decide +kernel
theorem dX11_countOf_72 : decode cX11_countOf 72 = .ok (.l2i, 1) := by decide +kernel
theorem dX11_countOf_73 : decode cX11_countOf 73 = .ok (.ireturn, 1) := by decide +kernel
theorem vc_X11_countOf_0 {G : zG} {d : Nat} {Q : Option zV → zHp → Prop} (p1 : Int) (p2 : Int) (h : zHp) (hS : zSh h) (hd : 1 ≤ d)  
    (hv : (wpN G (d - 1) M_X11_of 0 (zar 0 [vR 343, vI p1, vI p2, vI 7]) [] h (qI (fun z1 h2 => zSh h2 ∧ (wpN G (d - 1) M_X11_of 0 (zar 0 [vR 343, vI p1, vI p2, vI 8]) [] h2 (qI (fun z5 h6 => zSh h6 ∧ ((2 ≤ z1 → (((0 : Int) ≤ z5 ∧ z5 < ((24 : Nat) : Int)) ∧ (∀ x10 : Int, x10 = (gL h6 362 z5.toNat) → ((0 ≤ x10 → ((x10 ≤ 999 → Q (some (vI (w32 x10))) h6) ∧ (999 < x10 → Q (some (vI 999)) h6))) ∧ (x10 < 0 → Q (some (vI 0)) h6))))) ∧ (z1 < 2 → ((z1 ≠ 0 → Q (some (vI z5)) h6) ∧ (z1 = 0 → Q (some (vI 1)) h6))))))))))) : wpN G d M_X11_countOf 0 [(0, vR 343), (1, vI p1), (2, vI p2)] [] h Q := by
  refine wq_aload_n 0 rfl rfl dX11_countOf_0 ?_
  refine wq_iload_n 1 rfl rfl dX11_countOf_1 ?_
  refine wq_iload_n 2 rfl rfl dX11_countOf_2 ?_
  refine wq_bipush (z := 7) (zlit rfl) rfl dX11_countOf_3 ?_
  refine wN_V (As := [vI p1, vI p2, vI 7]) vm_X11_of lk_X11_139 tT_343 rfl rfl (Nat.le_of_ble_eq_true rfl) (Nat.le_of_ble_eq_true rfl) (d' := d - 1) (by omega) dX11_countOf_5 hv (fun v9 h2 q3 => ?_)
  obtain ⟨z1, rfl, hS4, q3⟩ := q3
  refine wq_st (st' := [vI z1]) rfl ?_
  refine wq_istore_n (ls' := [(0, vR 343), (1, vI p1), (2, vI p2), (3, vI z1)]) rfl (by decide) rfl dX11_countOf_8 ?_
  refine wq_aload_n 0 rfl rfl dX11_countOf_9 ?_
  refine wq_iload_n 1 rfl rfl dX11_countOf_10 ?_
  refine wq_iload_n 2 rfl rfl dX11_countOf_11 ?_
  refine wq_bipush (z := 8) (zlit rfl) rfl dX11_countOf_12 ?_
  refine wN_V (As := [vI p1, vI p2, vI 8]) vm_X11_of lk_X11_139 tT_343 rfl rfl (Nat.le_of_ble_eq_true rfl) (Nat.le_of_ble_eq_true rfl) (d' := d - 1) (by omega) dX11_countOf_14 q3 (fun v9 h6 q7 => ?_)
  obtain ⟨z5, rfl, hS8, q7⟩ := q7
  refine wq_st (st' := [vI z5]) rfl ?_
  refine wq_istore (ls' := [(0, vR 343), (1, vI p1), (2, vI p2), (3, vI z1), (4, vI z5)]) (by decide) rfl dX11_countOf_17 ?_
  refine wq_iload_n 3 rfl rfl dX11_countOf_19 ?_
  refine wq_iconst (z := 2) (zlit rfl) dX11_countOf_20 ?_
  refine wq_icmp_ge 35 rfl dX11_countOf_21 (fun c9 => ?_) (fun c9 => ?_)
  · refine wq_aload_n 0 rfl rfl dX11_countOf_35 ?_
    refine wq_getR fk_X11_64 tT_343 (fun _ _ _ => rfl) (sh_11_35 hS8) (by decide) dX11_countOf_36 ?_
    refine wq_iload 4 rfl dX11_countOf_39 ?_
    refine wq_lald tT_362 (q7.1 c9).1.1 (q7.1 c9).1.2 dX11_countOf_41 ?_
    refine wq_topL (fun x10 e11 => ?_)
    refine wq_lstore (ls' := [(0, vR 343), (1, vI p1), (2, vI p2), (3, vI z1), (4, vI z5), (5, vL x10)]) (by decide) rfl dX11_countOf_42 ?_
    refine wq_lload 5 rfl dX11_countOf_44 ?_
    refine wq_lconst (z := 0) (zlitL rfl) rfl dX11_countOf_46 ?_
    refine wq_lcmp_ge 55 rfl dX11_countOf_47 dX11_countOf_48 (fun c12 => ?_) (fun c12 => ?_)
    · refine wq_lload 5 rfl dX11_countOf_55 ?_
      refine wq_ldc2_w (z := 999) (zlitL rfl) kc_X11_247 dX11_countOf_57 ?_
      refine wq_lcmp_le 70 rfl dX11_countOf_60 dX11_countOf_61 (fun c13 => ?_) (fun c13 => ?_)
      · refine wq_lload 5 rfl dX11_countOf_70 ?_
        refine wq_l2i dX11_countOf_72 ?_
        exact wp_iret rfl dX11_countOf_73 ((((q7.1 c9).2 x10 e11).1 c12).1 c13)
      · refine wq_sipush (z := 999) (zlit rfl) rfl dX11_countOf_64 ?_
        refine wq_goto 73 rfl dX11_countOf_67 ?_
        exact wp_iret rfl dX11_countOf_73 ((((q7.1 c9).2 x10 e11).1 c12).2 c13)
    · refine wq_iconst (z := 0) (zlit rfl) dX11_countOf_51 ?_
      refine wq_goto 73 rfl dX11_countOf_52 ?_
      exact wp_iret rfl dX11_countOf_73 (((q7.1 c9).2 x10 e11).2 c12)
  · refine wq_iload_n 3 rfl rfl dX11_countOf_24 ?_
    refine wq_if_ne 32 rfl dX11_countOf_25 (fun c14 => ?_) (fun c14 => ?_)
    · refine wq_iload 4 rfl dX11_countOf_32 ?_
      exact wp_iret rfl dX11_countOf_34 ((q7.2 c9).1 c14)
    · refine wq_iconst (z := 1) (zlit rfl) dX11_countOf_28 ?_
      refine wq_goto 34 rfl dX11_countOf_29 ?_
      exact wp_iret rfl dX11_countOf_34 ((q7.2 c9).2 c14)
theorem dX11_laysAll_0 : decode cX11_laysAll 0 = .ok (.aload_n 0, 1) := by decide +kernel
theorem dX11_laysAll_1 : decode cX11_laysAll 1 = .ok (.iload_n 1, 1) := by decide +kernel
theorem dX11_laysAll_2 : decode cX11_laysAll 2 = .ok (.iload_n 2, 1) := by decide +kernel
theorem dX11_laysAll_3 : decode cX11_laysAll 3 = .ok (.iconst 0, 1) := by decide +kernel
theorem dX11_laysAll_4 : decode cX11_laysAll 4 = .ok (.invokevirtual 139, 3) := by decide +kernel
theorem dX11_laysAll_7 : decode cX11_laysAll 7 = .ok (.ifCond .ne 12, 3) := by decide +kernel
theorem dX11_laysAll_10 : decode cX11_laysAll 10 = .ok (.aload_n 0, 1) := by decide +kernel
theorem dX11_laysAll_11 : decode cX11_laysAll 11 = .ok (.iload_n 1, 1) := by decide +kernel
theorem dX11_laysAll_12 : decode cX11_laysAll 12 = .ok (.iload_n 2, 1) := by decide +kernel
theorem dX11_laysAll_13 : decode cX11_laysAll 13 = .ok (.invokevirtual 249, 3) := by decide +kernel
theorem dX11_laysAll_16 : decode cX11_laysAll 16 = .ok (.goto 4, 3) := by decide +kernel
theorem dX11_laysAll_19 : decode cX11_laysAll 19 = .ok (.iconst 1, 1) := by decide +kernel
theorem dX11_laysAll_20 : decode cX11_laysAll 20 = .ok (.istore_n 3, 1) := by decide +kernel
theorem dX11_laysAll_21 : decode cX11_laysAll 21 = .ok (.iconst 0, 1) := by decide +kernel
theorem dX11_laysAll_22 : decode cX11_laysAll 22 = .ok (.istore 4, 2) := by decide +kernel
theorem dX11_laysAll_24 : decode cX11_laysAll 24 = .ok (.iload 4, 2) := by decide +kernel
theorem dX11_laysAll_26 : decode cX11_laysAll 26 = .ok (.iload_n 3, 1) := by decide +kernel
theorem dX11_laysAll_27 : decode cX11_laysAll 27 = .ok (.if_icmp .ge 21, 3) := by decide +kernel
theorem dX11_laysAll_30 : decode cX11_laysAll 30 = .ok (.aload_n 0, 1) := by decide +kernel
theorem dX11_laysAll_31 : decode cX11_laysAll 31 = .ok (.iload_n 1, 1) := by decide +kernel
theorem dX11_laysAll_32 : decode cX11_laysAll 32 = .ok (.iload_n 2, 1) := by decide +kernel
theorem dX11_laysAll_33 : decode cX11_laysAll 33 = .ok (.iload 4, 2) := by decide +kernel
theorem dX11_laysAll_35 : decode cX11_laysAll 35 = .ok (.invokevirtual 252, 3) := by decide +kernel
theorem dX11_laysAll_38 : decode cX11_laysAll 38 = .ok (.ifCond .ne 4, 3) := by decide +kernel
theorem dX11_laysAll_41 : decode cX11_laysAll 41 = .ok (.return_, 1) := by decide +kernel
theorem dX11_laysAll_42 : decode cX11_laysAll 42 = .ok (.iinc 4 1, 3) := by decide +kernel
theorem dX11_laysAll_45 : decode cX11_laysAll 45 = .ok (.goto (-21), 3) := by decide +kernel
theorem dX11_laysAll_48 : decode cX11_laysAll 48 = .ok (.iload_n 3, 1) := by decide +kernel
theorem dX11_laysAll_49 : decode cX11_laysAll 49 = .ok (.iconst 1, 1) := by decide +kernel
theorem dX11_laysAll_50 : decode cX11_laysAll 50 = .ok (.if_icmp .ne 30, 3) := by decide +kernel
theorem dX11_laysAll_53 : decode cX11_laysAll 53 = .ok (.aload_n 0, 1) := by decide +kernel
theorem dX11_laysAll_54 : decode cX11_laysAll 54 = .ok (.iload_n 1, 1) := by decide +kernel
theorem dX11_laysAll_55 : decode cX11_laysAll 55 = .ok (.iload_n 2, 1) := by decide +kernel
theorem dX11_laysAll_56 : decode cX11_laysAll 56 = .ok (.bipush 7, 2) := by decide +kernel
theorem dX11_laysAll_58 : decode cX11_laysAll 58 = .ok (.invokevirtual 139, 3) := by decide +kernel
theorem dX11_laysAll_61 : decode cX11_laysAll 61 = .ok (.ifCond .ne 19, 3) := by decide +kernel
theorem dX11_laysAll_64 : decode cX11_laysAll 64 = .ok (.aload_n 0, 1) := by decide +kernel
theorem dX11_laysAll_65 : decode cX11_laysAll 65 = .ok (.getfield 64, 3) := by decide +kernel
theorem dX11_laysAll_68 : decode cX11_laysAll 68 = .ok (.iload_n 2, 1) := by decide +kernel
theorem dX11_laysAll_69 : decode cX11_laysAll 69 = .ok (.aload_n 0, 1) := by decide +kernel
theorem dX11_laysAll_70 : decode cX11_laysAll 70 = .ok (.aload_n 0, 1) := by decide +kernel
theorem dX11_laysAll_71 : decode cX11_laysAll 71 = .ok (.getfield 235, 3) := by decide +kernel
theorem dX11_laysAll_74 : decode cX11_laysAll 74 = .ok (.iconst 1, 1) := by decide +kernel
theorem dX11_laysAll_75 : decode cX11_laysAll 75 = .ok (.isub, 1) := by decide +kernel
theorem dX11_laysAll_76 : decode cX11_laysAll 76 = .ok (.invokevirtual 256, 3) := by decide +kernel
theorem dX11_laysAll_79 : decode cX11_laysAll 79 = .ok (.lastore, 1) := by decide +kernel
theorem dX11_laysAll_80 : decode cX11_laysAll 80 = .ok (.return_, 1) := by decide +kernel
theorem vc_X11_laysAll_0 {G : zG} {d : Nat} {Q : Option zV → zHp → Prop} (p1 : Int) (p2 : Int) (h : zHp) (hS : zSh h) (hd : 2 ≤ d) (I_24 : Int → Int → Int → Int → zHp → Prop) (hI_24 : ∀ (y1 : Int) (y2 : Int) (y3 : Int) (y4 : Int) (h' : zHp), I_24 y1 y2 y3 y4 h' → wpN G d M_X11_laysAll 24 [(0, vR 343), (1, vI y1), (2, vI y2), (3, vI y3), (4, vI y4)] [] h' Q) 
    (hv : (wpN G (d - 1) M_X11_of 0 (zar 0 [vR 343, vI p1, vI p2, vI 0]) [] h (qI (fun z1 h2 => zSh h2 ∧ ((z1 ≠ 0 → (zSh h2 → I_24 p1 p2 1 0 h2)) ∧ (z1 = 0 → (wpN G (d - 1) M_X11_countOf 0 (zar 0 [vR 343, vI p1, vI p2]) [] h2 (qI (fun z6 h7 => zSh h7 ∧ (zSh h7 → I_24 p1 p2 z6 0 h7)))))))))) : wpN G d M_X11_laysAll 0 [(0, vR 343), (1, vI p1), (2, vI p2)] [] h Q := by
  refine wq_aload_n 0 rfl rfl dX11_laysAll_0 ?_
  refine wq_iload_n 1 rfl rfl dX11_laysAll_1 ?_
  refine wq_iload_n 2 rfl rfl dX11_laysAll_2 ?_
  refine wq_iconst (z := 0) (zlit rfl) dX11_laysAll_3 ?_
  refine wN_V (As := [vI p1, vI p2, vI 0]) vm_X11_of lk_X11_139 tT_343 rfl rfl (Nat.le_of_ble_eq_true rfl) (Nat.le_of_ble_eq_true rfl) (d' := d - 1) (by omega) dX11_laysAll_4 hv (fun v9 h2 q3 => ?_)
  obtain ⟨z1, rfl, hS4, q3⟩ := q3
  refine wq_st (st' := [vI z1]) rfl ?_
  refine wq_if_ne 19 rfl dX11_laysAll_7 (fun c5 => ?_) (fun c5 => ?_)
  · refine wq_iconst (z := 1) (zlit rfl) dX11_laysAll_19 ?_
    refine wq_istore_n (ls' := [(0, vR 343), (1, vI p1), (2, vI p2), (3, vI 1)]) rfl (by decide) rfl dX11_laysAll_20 ?_
    refine wq_iconst (z := 0) (zlit rfl) dX11_laysAll_21 ?_
    refine wq_istore (ls' := [(0, vR 343), (1, vI p1), (2, vI p2), (3, vI 1), (4, vI 0)]) (by decide) rfl dX11_laysAll_22 ?_
    exact wq_pick [0, 1, 2, 3, 4] rfl (hI_24 p1 p2 1 0 h2 ((q3.1 c5) hS4))
  · refine wq_aload_n 0 rfl rfl dX11_laysAll_10 ?_
    refine wq_iload_n 1 rfl rfl dX11_laysAll_11 ?_
    refine wq_iload_n 2 rfl rfl dX11_laysAll_12 ?_
    refine wN_V (As := [vI p1, vI p2]) vm_X11_countOf lk_X11_249 tT_343 rfl rfl (Nat.le_of_ble_eq_true rfl) (Nat.le_of_ble_eq_true rfl) (d' := d - 1) (by omega) dX11_laysAll_13 (q3.2 c5) (fun v9 h7 q8 => ?_)
    obtain ⟨z6, rfl, hS9, q8⟩ := q8
    refine wq_st (st' := [vI z6]) rfl ?_
    refine wq_goto 20 rfl dX11_laysAll_16 ?_
    refine wq_istore_n (ls' := [(0, vR 343), (1, vI p1), (2, vI p2), (3, vI z6)]) rfl (by decide) rfl dX11_laysAll_20 ?_
    refine wq_iconst (z := 0) (zlit rfl) dX11_laysAll_21 ?_
    refine wq_istore (ls' := [(0, vR 343), (1, vI p1), (2, vI p2), (3, vI z6), (4, vI 0)]) (by decide) rfl dX11_laysAll_22 ?_
    exact wq_pick [0, 1, 2, 3, 4] rfl (hI_24 p1 p2 z6 0 h7 (q8 hS9))
theorem vc_X11_laysAll_24 {G : zG} {d : Nat} {Q : Option zV → zHp → Prop} (y1 : Int) (y2 : Int) (y3 : Int) (y4 : Int) (h : zHp) (hS : zSh h) (hd : 2 ≤ d) (I_24 : Int → Int → Int → Int → zHp → Prop) (hI_24 : ∀ (y1 : Int) (y2 : Int) (y3 : Int) (y4 : Int) (h' : zHp), I_24 y1 y2 y3 y4 h' → wpN G d M_X11_laysAll 24 [(0, vR 343), (1, vI y1), (2, vI y2), (3, vI y3), (4, vI y4)] [] h' Q) 
    (hv : ((y3 ≤ y4 → ((y3 ≠ 1 → Q none h) ∧ (y3 = 1 → (wpN G (d - 1) M_X11_of 0 (zar 0 [vR 343, vI y1, vI y2, vI 7]) [] h (qI (fun z3 h4 => zSh h4 ∧ ((z3 ≠ 0 → Q none h4) ∧ (z3 = 0 → ((-2147483648 ≤ (gI h4 343 31) - 1 ∧ (gI h4 343 31) - 1 ≤ 2147483647) ∧ (wpN G (d - 1) M_X11_valueOf 0 (zar 0 [vR 343, vI ((gI h4 343 31) - 1)]) [] h4 (qL (fun z8 h9 => zSh h9 ∧ (((0 : Int) ≤ y2 ∧ y2 < ((24 : Nat) : Int)) ∧ (∀ h12 : zHp, h12 = sL h9 362 y2.toNat z8 → Q none h12)))))))))))))) ∧ (y4 < y3 → (wpN G (d - 1) M_X11_lays 0 (zar 0 [vR 343, vI y1, vI y2, vI y4]) [] h (qI (fun z14 h15 => zSh h15 ∧ ((z14 ≠ 0 → ((-2147483648 ≤ y4 + 1 ∧ y4 + 1 ≤ 2147483647) ∧ ∀ x19 : Int, x19 = y4 + 1 → (zSh h15 → I_24 y1 y2 y3 x19 h15))) ∧ (z14 = 0 → Q none h15)))))))) : wpN G d M_X11_laysAll 24 [(0, vR 343), (1, vI y1), (2, vI y2), (3, vI y3), (4, vI y4)] [] h Q := by
  refine wq_iload 4 rfl dX11_laysAll_24 ?_
  refine wq_iload_n 3 rfl rfl dX11_laysAll_26 ?_
  refine wq_icmp_ge 48 rfl dX11_laysAll_27 (fun c1 => ?_) (fun c1 => ?_)
  · refine wq_iload_n 3 rfl rfl dX11_laysAll_48 ?_
    refine wq_iconst (z := 1) (zlit rfl) dX11_laysAll_49 ?_
    refine wq_icmp_ne 80 rfl dX11_laysAll_50 (fun c2 => ?_) (fun c2 => ?_)
    · exact wp_vret rfl dX11_laysAll_80 ((hv.1 c1).1 c2)
    · refine wq_aload_n 0 rfl rfl dX11_laysAll_53 ?_
      refine wq_iload_n 1 rfl rfl dX11_laysAll_54 ?_
      refine wq_iload_n 2 rfl rfl dX11_laysAll_55 ?_
      refine wq_bipush (z := 7) (zlit rfl) rfl dX11_laysAll_56 ?_
      refine wN_V (As := [vI y1, vI y2, vI 7]) vm_X11_of lk_X11_139 tT_343 rfl rfl (Nat.le_of_ble_eq_true rfl) (Nat.le_of_ble_eq_true rfl) (d' := d - 1) (by omega) dX11_laysAll_58 ((hv.1 c1).2 c2) (fun v9 h4 q5 => ?_)
      obtain ⟨z3, rfl, hS6, q5⟩ := q5
      refine wq_st (st' := [vI z3]) rfl ?_
      refine wq_if_ne 80 rfl dX11_laysAll_61 (fun c7 => ?_) (fun c7 => ?_)
      · exact wp_vret rfl dX11_laysAll_80 (q5.1 c7)
      · refine wq_aload_n 0 rfl rfl dX11_laysAll_64 ?_
        refine wq_getR fk_X11_64 tT_343 (fun _ _ _ => rfl) (sh_11_35 hS6) (by decide) dX11_laysAll_65 ?_
        refine wq_iload_n 2 rfl rfl dX11_laysAll_68 ?_
        refine wq_aload_n 0 rfl rfl dX11_laysAll_69 ?_
        refine wq_aload_n 0 rfl rfl dX11_laysAll_70 ?_
        refine wq_getI fk_X11_235 tT_343 (fun _ _ _ => rfl) dX11_laysAll_71 ?_
        refine wq_iconst (z := 1) (zlit rfl) dX11_laysAll_74 ?_
        refine wq_isub (q5.2 c7).1 dX11_laysAll_75 ?_
        refine wN_V (As := [vI ((gI h4 343 31) - 1)]) vm_X11_valueOf lk_X11_256 tT_343 rfl rfl (Nat.le_of_ble_eq_true rfl) (Nat.le_of_ble_eq_true rfl) (d' := d - 1) (by omega) dX11_laysAll_76 (q5.2 c7).2 (fun v9 h9 q10 => ?_)
        obtain ⟨z8, rfl, hS11, q10⟩ := q10
        refine wq_st (st' := [vL z8, vI y2, vR 362]) rfl ?_
        refine wq_last tT_362 q10.1.1 q10.1.2 dX11_laysAll_79 ?_
        refine wq_toph (fun h12 e13 => ?_)
        have sh12 : zSh h12 := zSh_of e13 hS11
        exact wp_vret rfl dX11_laysAll_80 (q10.2 h12 e13)
  · refine wq_aload_n 0 rfl rfl dX11_laysAll_30 ?_
    refine wq_iload_n 1 rfl rfl dX11_laysAll_31 ?_
    refine wq_iload_n 2 rfl rfl dX11_laysAll_32 ?_
    refine wq_iload 4 rfl dX11_laysAll_33 ?_
    refine wN_V (As := [vI y1, vI y2, vI y4]) vm_X11_lays lk_X11_252 tT_343 rfl rfl (Nat.le_of_ble_eq_true rfl) (Nat.le_of_ble_eq_true rfl) (d' := d - 1) (by omega) dX11_laysAll_35 (hv.2 c1) (fun v9 h15 q16 => ?_)
    obtain ⟨z14, rfl, hS17, q16⟩ := q16
    refine wq_st (st' := [vI z14]) rfl ?_
    refine wq_if_ne 42 rfl dX11_laysAll_38 (fun c18 => ?_) (fun c18 => ?_)
    · refine z_nm (y4 + 1) (fun x19 e20 => ?_)
      refine wq_iinc (y := x19) (ls' := [(0, vR 343), (1, vI y1), (2, vI y2), (3, vI y3), (4, vI x19)]) 4 rfl e20.symm (by rw [e20]; exact (q16.1 c18).1) (by decide) rfl dX11_laysAll_42 ?_
      refine wq_goto 24 rfl dX11_laysAll_45 ?_
      exact wq_pick [0, 1, 2, 3, 4] rfl (hI_24 y1 y2 y3 x19 h15 (((q16.1 c18).2 x19 e20) hS17))
    · exact wp_vret rfl dX11_laysAll_41 (q16.2 c18)
theorem dX11_aligns_0 : decode cX11_aligns 0 = .ok (.aload_n 0, 1) := by decide +kernel
theorem dX11_aligns_1 : decode cX11_aligns 1 = .ok (.getfield 241, 3) := by decide +kernel
theorem dX11_aligns_4 : decode cX11_aligns 4 = .ok (.iload_n 1, 1) := by decide +kernel
theorem dX11_aligns_5 : decode cX11_aligns 5 = .ok (.isub, 1) := by decide +kernel
theorem dX11_aligns_6 : decode cX11_aligns 6 = .ok (.iload_n 2, 1) := by decide +kernel
theorem dX11_aligns_7 : decode cX11_aligns 7 = .ok (.irem, 1) := by decide +kernel
theorem dX11_aligns_8 : decode cX11_aligns 8 = .ok (.ifCond .eq 16, 3) := by decide +kernel
theorem dX11_aligns_11 : decode cX11_aligns 11 = .ok (.aload_n 0, 1) := by decide +kernel
theorem dX11_aligns_12 : decode cX11_aligns 12 = .ok (.dup, 1) := by decide +kernel
theorem dX11_aligns_13 : decode cX11_aligns 13 = .ok (.getfield 241, 3) := by decide +kernel
theorem dX11_aligns_16 : decode cX11_aligns 16 = .ok (.iconst 1, 1) := by decide +kernel
theorem dX11_aligns_17 : decode cX11_aligns 17 = .ok (.iadd, 1) := by decide +kernel
theorem dX11_aligns_18 : decode cX11_aligns 18 = .ok (.putfield 241, 3) := by decide +kernel
theorem dX11_aligns_21 : decode cX11_aligns 21 = .ok (.goto (-21), 3) := by decide +kernel
theorem dX11_aligns_24 : decode cX11_aligns 24 = .ok (.return_, 1) := by decide +kernel
theorem vc_X11_aligns_0 {G : zG} {d : Nat} {Q : Option zV → zHp → Prop} (p1 : Int) (p2 : Int) (h : zHp) (hS : zSh h) (hd : 0 ≤ d) (I_0 : Int → Int → zHp → Prop) (hI_0 : ∀ (y1 : Int) (y2 : Int) (h' : zHp), I_0 y1 y2 h' → wpN G d M_X11_aligns 0 [(0, vR 343), (1, vI y1), (2, vI y2)] [] h' Q) 
    (hv : ((-2147483648 ≤ (gI h 343 33) - p1 ∧ (gI h 343 33) - p1 ≤ 2147483647) ∧ ((0 < p2) ∧ (((((gI h 343 33) - p1).tmod p2) = 0 → Q none h) ∧ ((((gI h 343 33) - p1).tmod p2) ≠ 0 → ((-2147483648 ≤ (gI h 343 33) + 1 ∧ (gI h 343 33) + 1 ≤ 2147483647) ∧ (∀ h2 : zHp, h2 = sI h 343 33 ((gI h 343 33) + 1) → (zSh h2 → I_0 p1 p2 h2)))))))) : wpN G d M_X11_aligns 0 [(0, vR 343), (1, vI p1), (2, vI p2)] [] h Q := by
  refine wq_aload_n 0 rfl rfl dX11_aligns_0 ?_
  refine wq_getI fk_X11_241 tT_343 (fun _ _ _ => rfl) dX11_aligns_1 ?_
  refine wq_iload_n 1 rfl rfl dX11_aligns_4 ?_
  refine wq_isub hv.1 dX11_aligns_5 ?_
  refine wq_iload_n 2 rfl rfl dX11_aligns_6 ?_
  refine wq_irem hv.2.1 dX11_aligns_7 ?_
  refine wq_if_eq 24 rfl dX11_aligns_8 (fun c1 => ?_) (fun c1 => ?_)
  · exact wp_vret rfl dX11_aligns_24 (hv.2.2.1 c1)
  · refine wq_aload_n 0 rfl rfl dX11_aligns_11 ?_
    refine wq_dup rfl dX11_aligns_12 ?_
    refine wq_getI fk_X11_241 tT_343 (fun _ _ _ => rfl) dX11_aligns_13 ?_
    refine wq_iconst (z := 1) (zlit rfl) dX11_aligns_16 ?_
    refine wq_iadd (hv.2.2.2 c1).1 dX11_aligns_17 ?_
    refine wq_putI fk_X11_241 tT_343 rfl rfl dX11_aligns_18 ?_
    refine wq_toph (fun h2 e3 => ?_)
    have sh2 : zSh h2 := zSh_of e3 hS
    refine wq_goto 0 rfl dX11_aligns_21 ?_
    exact wq_pick [0, 1, 2] rfl (hI_0 p1 p2 h2 (((hv.2.2.2 c1).2 h2 e3) sh2))
theorem dX11_enters_0 : decode cX11_enters 0 = .ok (.aload_n 0, 1) := by decide +kernel
theorem dX11_enters_1 : decode cX11_enters 1 = .ok (.iload_n 1, 1) := by decide +kernel
theorem dX11_enters_2 : decode cX11_enters 2 = .ok (.iload_n 2, 1) := by decide +kernel
theorem dX11_enters_3 : decode cX11_enters 3 = .ok (.invokevirtual 249, 3) := by decide +kernel
theorem dX11_enters_6 : decode cX11_enters 6 = .ok (.istore_n 3, 1) := by decide +kernel
theorem dX11_enters_7 : decode cX11_enters 7 = .ok (.iload_n 3, 1) := by decide +kernel
theorem dX11_enters_8 : decode cX11_enters 8 = .ok (.ifCond .le 47, 3) := by decide +kernel
theorem dX11_enters_11 : decode cX11_enters 11 = .ok (.aload_n 0, 1) := by decide +kernel
theorem dX11_enters_12 : decode cX11_enters 12 = .ok (.getfield 74, 3) := by decide +kernel
theorem dX11_enters_15 : decode cX11_enters 15 = .ok (.aload_n 0, 1) := by decide +kernel
theorem dX11_enters_16 : decode cX11_enters 16 = .ok (.getfield 244, 3) := by decide +kernel
theorem dX11_enters_19 : decode cX11_enters 19 = .ok (.iload_n 2, 1) := by decide +kernel
theorem dX11_enters_20 : decode cX11_enters 20 = .ok (.iastore, 1) := by decide +kernel
theorem dX11_enters_21 : decode cX11_enters 21 = .ok (.aload_n 0, 1) := by decide +kernel
theorem dX11_enters_22 : decode cX11_enters 22 = .ok (.getfield 77, 3) := by decide +kernel
theorem dX11_enters_25 : decode cX11_enters 25 = .ok (.aload_n 0, 1) := by decide +kernel
theorem dX11_enters_26 : decode cX11_enters 26 = .ok (.getfield 244, 3) := by decide +kernel
theorem dX11_enters_29 : decode cX11_enters 29 = .ok (.iload_n 3, 1) := by decide +kernel
theorem dX11_enters_30 : decode cX11_enters 30 = .ok (.iastore, 1) := by decide +kernel
theorem dX11_enters_31 : decode cX11_enters 31 = .ok (.aload_n 0, 1) := by decide +kernel
theorem dX11_enters_32 : decode cX11_enters 32 = .ok (.getfield 80, 3) := by decide +kernel
theorem dX11_enters_35 : decode cX11_enters 35 = .ok (.aload_n 0, 1) := by decide +kernel
theorem dX11_enters_36 : decode cX11_enters 36 = .ok (.getfield 244, 3) := by decide +kernel
theorem dX11_enters_39 : decode cX11_enters 39 = .ok (.iconst 0, 1) := by decide +kernel
theorem dX11_enters_40 : decode cX11_enters 40 = .ok (.iastore, 1) := by decide +kernel
theorem dX11_enters_41 : decode cX11_enters 41 = .ok (.aload_n 0, 1) := by decide +kernel
theorem dX11_enters_42 : decode cX11_enters 42 = .ok (.dup, 1) := by decide +kernel
theorem dX11_enters_43 : decode cX11_enters 43 = .ok (.getfield 244, 3) := by decide +kernel
theorem dX11_enters_46 : decode cX11_enters 46 = .ok (.iconst 1, 1) := by decide +kernel
theorem dX11_enters_47 : decode cX11_enters 47 = .ok (.iadd, 1) := by decide +kernel
theorem dX11_enters_48 : decode cX11_enters 48 = .ok (.putfield 244, 3) := by decide +kernel
theorem dX11_enters_51 : decode cX11_enters 51 = .ok (.aload_n 0, 1) := by decide +kernel
theorem dX11_enters_52 : decode cX11_enters 52 = .ok (.invokevirtual 260, 3) := by decide +kernel
theorem dX11_enters_55 : decode cX11_enters 55 = .ok (.return_, 1) := by decide +kernel
theorem vc_X11_enters_0 {G : zG} {d : Nat} {Q : Option zV → zHp → Prop} (p1 : Int) (p2 : Int) (h : zHp) (hS : zSh h) (hd : 2 ≤ d)  
    (hv : (wpN G (d - 1) M_X11_countOf 0 (zar 0 [vR 343, vI p1, vI p2]) [] h (qI (fun z1 h2 => zSh h2 ∧ ((z1 ≤ 0 → Q none h2) ∧ (0 < z1 → (((0 : Int) ≤ (gI h2 343 41) ∧ (gI h2 343 41) < ((4 : Nat) : Int)) ∧ (∀ h6 : zHp, h6 = sI h2 365 (gI h2 343 41).toNat p2 → (((0 : Int) ≤ (gI h6 343 41) ∧ (gI h6 343 41) < ((4 : Nat) : Int)) ∧ (∀ h8 : zHp, h8 = sI h6 366 (gI h6 343 41).toNat z1 → (((0 : Int) ≤ (gI h8 343 41) ∧ (gI h8 343 41) < ((4 : Nat) : Int)) ∧ (∀ h10 : zHp, h10 = sI h8 367 (gI h8 343 41).toNat 0 → ((-2147483648 ≤ (gI h10 343 41) + 1 ∧ (gI h10 343 41) + 1 ≤ 2147483647) ∧ (∀ h12 : zHp, h12 = sI h10 343 41 ((gI h10 343 41) + 1) → (wpN G (d - 1) M_X11_goesIn 0 (zar 0 [vR 343]) [] h12 (qV (fun h15 => zSh h15 ∧ Q none h15))))))))))))))))) : wpN G d M_X11_enters 0 [(0, vR 343), (1, vI p1), (2, vI p2)] [] h Q := by
  refine wq_aload_n 0 rfl rfl dX11_enters_0 ?_
  refine wq_iload_n 1 rfl rfl dX11_enters_1 ?_
  refine wq_iload_n 2 rfl rfl dX11_enters_2 ?_
  refine wN_V (As := [vI p1, vI p2]) vm_X11_countOf lk_X11_249 tT_343 rfl rfl (Nat.le_of_ble_eq_true rfl) (Nat.le_of_ble_eq_true rfl) (d' := d - 1) (by omega) dX11_enters_3 hv (fun v9 h2 q3 => ?_)
  obtain ⟨z1, rfl, hS4, q3⟩ := q3
  refine wq_st (st' := [vI z1]) rfl ?_
  refine wq_istore_n (ls' := [(0, vR 343), (1, vI p1), (2, vI p2), (3, vI z1)]) rfl (by decide) rfl dX11_enters_6 ?_
  refine wq_iload_n 3 rfl rfl dX11_enters_7 ?_
  refine wq_if_le 55 rfl dX11_enters_8 (fun c5 => ?_) (fun c5 => ?_)
  · exact wp_vret rfl dX11_enters_55 (q3.1 c5)
  · refine wq_aload_n 0 rfl rfl dX11_enters_11 ?_
    refine wq_getR fk_X11_74 tT_343 (fun _ _ _ => rfl) (sh_11_38 hS4) (by decide) dX11_enters_12 ?_
    refine wq_aload_n 0 rfl rfl dX11_enters_15 ?_
    refine wq_getI fk_X11_244 tT_343 (fun _ _ _ => rfl) dX11_enters_16 ?_
    refine wq_iload_n 2 rfl rfl dX11_enters_19 ?_
    refine wq_iast tT_365 (q3.2 c5).1.1 (q3.2 c5).1.2 dX11_enters_20 ?_
    refine wq_toph (fun h6 e7 => ?_)
    have sh6 : zSh h6 := zSh_of e7 hS4
    refine wq_aload_n 0 rfl rfl dX11_enters_21 ?_
    refine wq_getR fk_X11_77 tT_343 (fun _ _ _ => rfl) (sh_11_39 sh6) (by decide) dX11_enters_22 ?_
    refine wq_aload_n 0 rfl rfl dX11_enters_25 ?_
    refine wq_getI fk_X11_244 tT_343 (fun _ _ _ => rfl) dX11_enters_26 ?_
    refine wq_iload_n 3 rfl rfl dX11_enters_29 ?_
    refine wq_iast tT_366 ((q3.2 c5).2 h6 e7).1.1 ((q3.2 c5).2 h6 e7).1.2 dX11_enters_30 ?_
    refine wq_toph (fun h8 e9 => ?_)
    have sh8 : zSh h8 := zSh_of e9 sh6
    refine wq_aload_n 0 rfl rfl dX11_enters_31 ?_
    refine wq_getR fk_X11_80 tT_343 (fun _ _ _ => rfl) (sh_11_40 sh8) (by decide) dX11_enters_32 ?_
    refine wq_aload_n 0 rfl rfl dX11_enters_35 ?_
    refine wq_getI fk_X11_244 tT_343 (fun _ _ _ => rfl) dX11_enters_36 ?_
    refine wq_iconst (z := 0) (zlit rfl) dX11_enters_39 ?_
    refine wq_iast tT_367 (((q3.2 c5).2 h6 e7).2 h8 e9).1.1 (((q3.2 c5).2 h6 e7).2 h8 e9).1.2 dX11_enters_40 ?_
    refine wq_toph (fun h10 e11 => ?_)
    have sh10 : zSh h10 := zSh_of e11 sh8
    refine wq_aload_n 0 rfl rfl dX11_enters_41 ?_
    refine wq_dup rfl dX11_enters_42 ?_
    refine wq_getI fk_X11_244 tT_343 (fun _ _ _ => rfl) dX11_enters_43 ?_
    refine wq_iconst (z := 1) (zlit rfl) dX11_enters_46 ?_
    refine wq_iadd ((((q3.2 c5).2 h6 e7).2 h8 e9).2 h10 e11).1 dX11_enters_47 ?_
    refine wq_putI fk_X11_244 tT_343 rfl rfl dX11_enters_48 ?_
    refine wq_toph (fun h12 e13 => ?_)
    have sh12 : zSh h12 := zSh_of e13 sh10
    refine wq_aload_n 0 rfl rfl dX11_enters_51 ?_
    refine wN_V (As := []) vm_X11_goesIn lk_X11_260 tT_343 rfl rfl (Nat.le_of_ble_eq_true rfl) (Nat.le_of_ble_eq_true rfl) (d' := d - 1) (by omega) dX11_enters_52 (((((q3.2 c5).2 h6 e7).2 h8 e9).2 h10 e11).2 h12 e13) (fun v9 h15 q16 => ?_)
    obtain ⟨rfl, hS17, q16⟩ := q16
    refine wq_st (st' := []) rfl ?_
    exact wp_vret rfl dX11_enters_55 q16
theorem dX11_goesIn_0 : decode cX11_goesIn 0 = .ok (.aload_n 0, 1) := by decide +kernel
theorem dX11_goesIn_1 : decode cX11_goesIn 1 = .ok (.dup, 1) := by decide +kernel
theorem dX11_goesIn_2 : decode cX11_goesIn 2 = .ok (.getfield 263, 3) := by decide +kernel
theorem dX11_goesIn_5 : decode cX11_goesIn 5 = .ok (.iconst 1, 1) := by decide +kernel
theorem dX11_goesIn_6 : decode cX11_goesIn 6 = .ok (.iadd, 1) := by decide +kernel
theorem dX11_goesIn_7 : decode cX11_goesIn 7 = .ok (.putfield 263, 3) := by decide +kernel
theorem dX11_goesIn_10 : decode cX11_goesIn 10 = .ok (.aload_n 0, 1) := by decide +kernel
theorem dX11_goesIn_11 : decode cX11_goesIn 11 = .ok (.aload_n 0, 1) := by decide +kernel
theorem dX11_goesIn_12 : decode cX11_goesIn 12 = .ok (.getfield 263, 3) := by decide +kernel
theorem dX11_goesIn_15 : decode cX11_goesIn 15 = .ok (.sipush 400, 3) := by decide +kernel
theorem dX11_goesIn_18 : decode cX11_goesIn 18 = .ok (.if_icmp .le 7, 3) := by decide +kernel
theorem dX11_goesIn_21 : decode cX11_goesIn 21 = .ok (.iconst 3, 1) := by decide +kernel
theorem dX11_goesIn_22 : decode cX11_goesIn 22 = .ok (.goto 7, 3) := by decide +kernel
theorem dX11_goesIn_25 : decode cX11_goesIn 25 = .ok (.aload_n 0, 1) := by decide +kernel
theorem dX11_goesIn_26 : decode cX11_goesIn 26 = .ok (.getfield 238, 3) := by decide +kernel
theorem dX11_goesIn_29 : decode cX11_goesIn 29 = .ok (.putfield 238, 3) := by decide +kernel
theorem dX11_goesIn_32 : decode cX11_goesIn 32 = .ok (.return_, 1) := by decide +kernel
theorem vc_X11_goesIn_0 {G : zG} {d : Nat} {Q : Option zV → zHp → Prop}  (h : zHp) (hS : zSh h) (hd : 0 ≤ d)  
    (hv : ((-2147483648 ≤ (gI h 343 34) + 1 ∧ (gI h 343 34) + 1 ≤ 2147483647) ∧ (∀ h1 : zHp, h1 = sI h 343 34 ((gI h 343 34) + 1) → (((gI h1 343 34) ≤ 400 → (∀ h4 : zHp, h4 = sI h1 343 32 (gI h1 343 32) → Q none h4)) ∧ (400 < (gI h1 343 34) → (∀ h6 : zHp, h6 = sI h1 343 32 3 → Q none h6)))))) : wpN G d M_X11_goesIn 0 [(0, vR 343)] [] h Q := by
  refine wq_aload_n 0 rfl rfl dX11_goesIn_0 ?_
  refine wq_dup rfl dX11_goesIn_1 ?_
  refine wq_getI fk_X11_263 tT_343 (fun _ _ _ => rfl) dX11_goesIn_2 ?_
  refine wq_iconst (z := 1) (zlit rfl) dX11_goesIn_5 ?_
  refine wq_iadd hv.1 dX11_goesIn_6 ?_
  refine wq_putI fk_X11_263 tT_343 rfl rfl dX11_goesIn_7 ?_
  refine wq_toph (fun h1 e2 => ?_)
  have sh1 : zSh h1 := zSh_of e2 hS
  refine wq_aload_n 0 rfl rfl dX11_goesIn_10 ?_
  refine wq_aload_n 0 rfl rfl dX11_goesIn_11 ?_
  refine wq_getI fk_X11_263 tT_343 (fun _ _ _ => rfl) dX11_goesIn_12 ?_
  refine wq_sipush (z := 400) (zlit rfl) rfl dX11_goesIn_15 ?_
  refine wq_icmp_le 25 rfl dX11_goesIn_18 (fun c3 => ?_) (fun c3 => ?_)
  · refine wq_aload_n 0 rfl rfl dX11_goesIn_25 ?_
    refine wq_getI fk_X11_238 tT_343 (fun _ _ _ => rfl) dX11_goesIn_26 ?_
    refine wq_putI fk_X11_238 tT_343 rfl rfl dX11_goesIn_29 ?_
    refine wq_toph (fun h4 e5 => ?_)
    have sh4 : zSh h4 := zSh_of e5 sh1
    exact wp_vret rfl dX11_goesIn_32 (((hv.2 h1 e2).1 c3) h4 e5)
  · refine wq_iconst (z := 3) (zlit rfl) dX11_goesIn_21 ?_
    refine wq_goto 29 rfl dX11_goesIn_22 ?_
    refine wq_putI fk_X11_238 tT_343 rfl rfl dX11_goesIn_29 ?_
    refine wq_toph (fun h6 e7 => ?_)
    have sh6 : zSh h6 := zSh_of e7 sh1
    exact wp_vret rfl dX11_goesIn_32 (((hv.2 h1 e2).2 c3) h6 e7)
theorem dX11_passes_0 : decode cX11_passes 0 = .ok (.aload_n 0, 1) := by decide +kernel
theorem dX11_passes_1 : decode cX11_passes 1 = .ok (.dup, 1) := by decide +kernel
theorem dX11_passes_2 : decode cX11_passes 2 = .ok (.getfield 263, 3) := by decide +kernel
theorem dX11_passes_5 : decode cX11_passes 5 = .ok (.iconst 1, 1) := by decide +kernel
theorem dX11_passes_6 : decode cX11_passes 6 = .ok (.iadd, 1) := by decide +kernel
theorem dX11_passes_7 : decode cX11_passes 7 = .ok (.putfield 263, 3) := by decide +kernel
theorem dX11_passes_10 : decode cX11_passes 10 = .ok (.aload_n 0, 1) := by decide +kernel
theorem dX11_passes_11 : decode cX11_passes 11 = .ok (.getfield 263, 3) := by decide +kernel
theorem dX11_passes_14 : decode cX11_passes 14 = .ok (.sipush 400, 3) := by decide +kernel
theorem dX11_passes_17 : decode cX11_passes 17 = .ok (.if_icmp .le 10, 3) := by decide +kernel
theorem dX11_passes_20 : decode cX11_passes 20 = .ok (.aload_n 0, 1) := by decide +kernel
theorem dX11_passes_21 : decode cX11_passes 21 = .ok (.iconst 3, 1) := by decide +kernel
theorem dX11_passes_22 : decode cX11_passes 22 = .ok (.putfield 238, 3) := by decide +kernel
theorem dX11_passes_25 : decode cX11_passes 25 = .ok (.iload_n 2, 1) := by decide +kernel
theorem dX11_passes_26 : decode cX11_passes 26 = .ok (.ireturn, 1) := by decide +kernel
theorem dX11_passes_27 : decode cX11_passes 27 = .ok (.aload_n 0, 1) := by decide +kernel
theorem dX11_passes_28 : decode cX11_passes 28 = .ok (.getfield 68, 3) := by decide +kernel
theorem dX11_passes_31 : decode cX11_passes 31 = .ok (.iload_n 2, 1) := by decide +kernel
theorem dX11_passes_32 : decode cX11_passes 32 = .ok (.aload_n 0, 1) := by decide +kernel
theorem dX11_passes_33 : decode cX11_passes 33 = .ok (.getfield 241, 3) := by decide +kernel
theorem dX11_passes_36 : decode cX11_passes 36 = .ok (.iastore, 1) := by decide +kernel
theorem dX11_passes_37 : decode cX11_passes 37 = .ok (.aload_n 0, 1) := by decide +kernel
theorem dX11_passes_38 : decode cX11_passes 38 = .ok (.getfield 71, 3) := by decide +kernel
theorem dX11_passes_41 : decode cX11_passes 41 = .ok (.iload_n 2, 1) := by decide +kernel
theorem dX11_passes_42 : decode cX11_passes 42 = .ok (.aload_n 0, 1) := by decide +kernel
theorem dX11_passes_43 : decode cX11_passes 43 = .ok (.getfield 241, 3) := by decide +kernel
theorem dX11_passes_46 : decode cX11_passes 46 = .ok (.iastore, 1) := by decide +kernel
theorem dX11_passes_47 : decode cX11_passes 47 = .ok (.aload_n 0, 1) := by decide +kernel
theorem dX11_passes_48 : decode cX11_passes 48 = .ok (.getfield 64, 3) := by decide +kernel
theorem dX11_passes_51 : decode cX11_passes 51 = .ok (.iload_n 2, 1) := by decide +kernel
theorem dX11_passes_52 : decode cX11_passes 52 = .ok (.lconst 0, 1) := by decide +kernel
theorem dX11_passes_53 : decode cX11_passes 53 = .ok (.lastore, 1) := by decide +kernel
theorem dX11_passes_54 : decode cX11_passes 54 = .ok (.aload_n 0, 1) := by decide +kernel
theorem dX11_passes_55 : decode cX11_passes 55 = .ok (.iload_n 1, 1) := by decide +kernel
theorem dX11_passes_56 : decode cX11_passes 56 = .ok (.iload_n 2, 1) := by decide +kernel
theorem dX11_passes_57 : decode cX11_passes 57 = .ok (.iconst 2, 1) := by decide +kernel
theorem dX11_passes_58 : decode cX11_passes 58 = .ok (.invokevirtual 139, 3) := by decide +kernel
theorem dX11_passes_61 : decode cX11_passes 61 = .ok (.istore 4, 2) := by decide +kernel
theorem dX11_passes_63 : decode cX11_passes 63 = .ok (.iload 4, 2) := by decide +kernel
theorem dX11_passes_65 : decode cX11_passes 65 = .ok (.ifCond .lt 31, 3) := by decide +kernel
theorem dX11_passes_68 : decode cX11_passes 68 = .ok (.aload_n 0, 1) := by decide +kernel
theorem dX11_passes_69 : decode cX11_passes 69 = .ok (.getfield 64, 3) := by decide +kernel
theorem dX11_passes_72 : decode cX11_passes 72 = .ok (.iload 4, 2) := by decide +kernel
theorem dX11_passes_74 : decode cX11_passes 74 = .ok (.laload, 1) := by decide +kernel
theorem dX11_passes_75 : decode cX11_passes 75 = .ok (.aload_n 0, 1) := by decide +kernel
theorem dX11_passes_76 : decode cX11_passes 76 = .ok (.iload_n 1, 1) := by decide +kernel
theorem dX11_passes_77 : decode cX11_passes 77 = .ok (.iload_n 2, 1) := by decide +kernel
theorem dX11_passes_78 : decode cX11_passes 78 = .ok (.iconst 3, 1) := by decide +kernel
theorem dX11_passes_79 : decode cX11_passes 79 = .ok (.invokevirtual 139, 3) := by decide +kernel
theorem dX11_passes_82 : decode cX11_passes 82 = .ok (.i2l, 1) := by decide +kernel
theorem dX11_passes_83 : decode cX11_passes 83 = .ok (.lcmp, 1) := by decide +kernel
theorem dX11_passes_84 : decode cX11_passes 84 = .ok (.ifCond .eq 12, 3) := by decide +kernel
theorem dX11_passes_87 : decode cX11_passes 87 = .ok (.aload_n 0, 1) := by decide +kernel
theorem dX11_passes_88 : decode cX11_passes 88 = .ok (.iload_n 1, 1) := by decide +kernel
theorem dX11_passes_89 : decode cX11_passes 89 = .ok (.iload_n 2, 1) := by decide +kernel
theorem dX11_passes_90 : decode cX11_passes 90 = .ok (.bipush 9, 2) := by decide +kernel
theorem dX11_passes_92 : decode cX11_passes 92 = .ok (.invokevirtual 139, 3) := by decide +kernel
theorem dX11_passes_95 : decode cX11_passes 95 = .ok (.ireturn, 1) := by decide +kernel
theorem dX11_passes_96 : decode cX11_passes 96 = .ok (.aload_n 0, 1) := by decide +kernel
theorem dX11_passes_97 : decode cX11_passes 97 = .ok (.iload_n 1, 1) := by decide +kernel
theorem dX11_passes_98 : decode cX11_passes 98 = .ok (.iload_n 2, 1) := by decide +kernel
theorem dX11_passes_99 : decode cX11_passes 99 = .ok (.bipush 9, 2) := by decide +kernel
theorem dX11_passes_101 : decode cX11_passes 101 = .ok (.invokevirtual 139, 3) := by decide +kernel
theorem dX11_passes_104 : decode cX11_passes 104 = .ok (.istore 5, 2) := by decide +kernel
theorem dX11_passes_106 : decode cX11_passes 106 = .ok (.aload_n 0, 1) := by decide +kernel
theorem dX11_passes_107 : decode cX11_passes 107 = .ok (.iload_n 1, 1) := by decide +kernel
theorem dX11_passes_108 : decode cX11_passes 108 = .ok (.iload_n 2, 1) := by decide +kernel
theorem dX11_passes_109 : decode cX11_passes 109 = .ok (.iconst 0, 1) := by decide +kernel
theorem dX11_passes_110 : decode cX11_passes 110 = .ok (.invokevirtual 139, 3) := by decide +kernel
theorem dX11_passes_113 : decode cX11_passes 113 = .ok (.tableswitch 99 1 4 #[65, 99, 31, 50], 31) := by decide +kernel
theorem dX11_passes_144 : decode cX11_passes 144 = .ok (.aload_n 0, 1) := by decide +kernel
theorem dX11_passes_145 : decode cX11_passes 145 = .ok (.dup, 1) := by decide +kernel
theorem dX11_passes_146 : decode cX11_passes 146 = .ok (.getfield 241, 3) := by decide +kernel
theorem dX11_passes_149 : decode cX11_passes 149 = .ok (.aload_n 0, 1) := by decide +kernel
theorem dX11_passes_150 : decode cX11_passes 150 = .ok (.iload_n 1, 1) := by decide +kernel
theorem dX11_passes_151 : decode cX11_passes 151 = .ok (.iload_n 2, 1) := by decide +kernel
theorem dX11_passes_152 : decode cX11_passes 152 = .ok (.iconst 4, 1) := by decide +kernel
theorem dX11_passes_153 : decode cX11_passes 153 = .ok (.invokevirtual 139, 3) := by decide +kernel
theorem dX11_passes_156 : decode cX11_passes 156 = .ok (.iadd, 1) := by decide +kernel
theorem dX11_passes_157 : decode cX11_passes 157 = .ok (.putfield 241, 3) := by decide +kernel
theorem dX11_passes_160 : decode cX11_passes 160 = .ok (.goto 58, 3) := by decide +kernel
theorem dX11_passes_163 : decode cX11_passes 163 = .ok (.aload_n 0, 1) := by decide +kernel
theorem dX11_passes_164 : decode cX11_passes 164 = .ok (.iload_n 3, 1) := by decide +kernel
theorem dX11_passes_165 : decode cX11_passes 165 = .ok (.aload_n 0, 1) := by decide +kernel
theorem dX11_passes_166 : decode cX11_passes 166 = .ok (.iload_n 1, 1) := by decide +kernel
theorem dX11_passes_167 : decode cX11_passes 167 = .ok (.iload_n 2, 1) := by decide +kernel
theorem dX11_passes_168 : decode cX11_passes 168 = .ok (.iconst 4, 1) := by decide +kernel
theorem dX11_passes_169 : decode cX11_passes 169 = .ok (.invokevirtual 139, 3) := by decide +kernel
theorem dX11_passes_172 : decode cX11_passes 172 = .ok (.invokevirtual 266, 3) := by decide +kernel
theorem dX11_passes_175 : decode cX11_passes 175 = .ok (.goto 43, 3) := by decide +kernel
theorem dX11_passes_178 : decode cX11_passes 178 = .ok (.aload_n 0, 1) := by decide +kernel
theorem dX11_passes_179 : decode cX11_passes 179 = .ok (.getfield 244, 3) := by decide +kernel
theorem dX11_passes_182 : decode cX11_passes 182 = .ok (.istore 6, 2) := by decide +kernel
theorem dX11_passes_184 : decode cX11_passes 184 = .ok (.aload_n 0, 1) := by decide +kernel
theorem dX11_passes_185 : decode cX11_passes 185 = .ok (.iload_n 1, 1) := by decide +kernel
theorem dX11_passes_186 : decode cX11_passes 186 = .ok (.iload_n 2, 1) := by decide +kernel
theorem dX11_passes_187 : decode cX11_passes 187 = .ok (.invokevirtual 269, 3) := by decide +kernel
theorem dX11_passes_190 : decode cX11_passes 190 = .ok (.aload_n 0, 1) := by decide +kernel
theorem dX11_passes_191 : decode cX11_passes 191 = .ok (.getfield 244, 3) := by decide +kernel
theorem dX11_passes_194 : decode cX11_passes 194 = .ok (.iload 6, 2) := by decide +kernel
theorem dX11_passes_196 : decode cX11_passes 196 = .ok (.if_icmp .le 9, 3) := by decide +kernel
theorem dX11_passes_199 : decode cX11_passes 199 = .ok (.iload_n 2, 1) := by decide +kernel
theorem dX11_passes_200 : decode cX11_passes 200 = .ok (.iconst 1, 1) := by decide +kernel
theorem dX11_passes_201 : decode cX11_passes 201 = .ok (.iadd, 1) := by decide +kernel
theorem dX11_passes_202 : decode cX11_passes 202 = .ok (.goto 5, 3) := by decide +kernel
theorem dX11_passes_205 : decode cX11_passes 205 = .ok (.iload 5, 2) := by decide +kernel
theorem dX11_passes_207 : decode cX11_passes 207 = .ok (.istore 5, 2) := by decide +kernel
theorem dX11_passes_209 : decode cX11_passes 209 = .ok (.goto 9, 3) := by decide +kernel
theorem dX11_passes_212 : decode cX11_passes 212 = .ok (.aload_n 0, 1) := by decide +kernel
theorem dX11_passes_213 : decode cX11_passes 213 = .ok (.iload_n 1, 1) := by decide +kernel
theorem dX11_passes_214 : decode cX11_passes 214 = .ok (.iload_n 2, 1) := by decide +kernel
theorem dX11_passes_215 : decode cX11_passes 215 = .ok (.invokevirtual 272, 3) := by decide +kernel
theorem dX11_passes_218 : decode cX11_passes 218 = .ok (.aload_n 0, 1) := by decide +kernel
theorem dX11_passes_219 : decode cX11_passes 219 = .ok (.getfield 71, 3) := by decide +kernel
theorem dX11_passes_222 : decode cX11_passes 222 = .ok (.iload_n 2, 1) := by decide +kernel
theorem dX11_passes_223 : decode cX11_passes 223 = .ok (.aload_n 0, 1) := by decide +kernel
theorem dX11_passes_224 : decode cX11_passes 224 = .ok (.getfield 241, 3) := by decide +kernel
theorem dX11_passes_227 : decode cX11_passes 227 = .ok (.iastore, 1) := by decide +kernel
theorem dX11_passes_228 : decode cX11_passes 228 = .ok (.iload 5, 2) := by decide +kernel
theorem dX11_passes_230 : decode cX11_passes 230 = .ok (.ireturn, 1) := by decide +kernel
theorem vc_X11_passes_0 {G : zG} {d : Nat} {Q : Option zV → zHp → Prop} (p1 : Int) (p2 : Int) (p3 : Int) (h : zHp) (hS : zSh h) (hd : 3 ≤ d)  
    (hv : ((-2147483648 ≤ (gI h 343 34) + 1 ∧ (gI h 343 34) + 1 ≤ 2147483647) ∧ (∀ h1 : zHp, h1 = sI h 343 34 ((gI h 343 34) + 1) → (((gI h1 343 34) ≤ 400 → (((0 : Int) ≤ p2 ∧ p2 < ((24 : Nat) : Int)) ∧ (∀ h4 : zHp, h4 = sI h1 363 p2.toNat (gI h1 343 33) → (((0 : Int) ≤ p2 ∧ p2 < ((24 : Nat) : Int)) ∧ (∀ h6 : zHp, h6 = sI h4 364 p2.toNat (gI h4 343 33) → (((0 : Int) ≤ p2 ∧ p2 < ((24 : Nat) : Int)) ∧ (∀ h8 : zHp, h8 = sL h6 362 p2.toNat 0 → (wpN G (d - 1) M_X11_of 0 (zar 0 [vR 343, vI p1, vI p2, vI 2]) [] h8 (qI (fun z10 h11 => zSh h11 ∧ ((z10 < 0 → (wpN G (d - 1) M_X11_of 0 (zar 0 [vR 343, vI p1, vI p2, vI 9]) [] h11 (qI (fun z15 h16 => zSh h16 ∧ (wpN G (d - 1) M_X11_of 0 (zar 0 [vR 343, vI p1, vI p2, vI 0]) [] h16 (qI (fun z19 h20 => zSh h20 ∧ ((z19 < 1 ∨ 4 < z19 → (wpN G (d - 1) M_X11_laysAll 0 (zar 0 [vR 343, vI p1, vI p2]) [] h20 (qV (fun h25 => zSh h25 ∧ (((0 : Int) ≤ p2 ∧ p2 < ((24 : Nat) : Int)) ∧ (∀ h28 : zHp, h28 = sI h25 364 p2.toNat (gI h25 343 33) → Q (some (vI z15)) h28)))))) ∧ (z19 = 1 + ((0 : Nat) : Int) → (∀ x30 : Int, x30 = (gI h20 343 41) → (wpN G (d - 1) M_X11_enters 0 (zar 0 [vR 343, vI p1, vI p2]) [] h20 (qV (fun h33 => zSh h33 ∧ (((gI h33 343 41) ≤ x30 → (((0 : Int) ≤ p2 ∧ p2 < ((24 : Nat) : Int)) ∧ (∀ h37 : zHp, h37 = sI h33 364 p2.toNat (gI h33 343 33) → Q (some (vI z15)) h37))) ∧ (x30 < (gI h33 343 41) → ((-2147483648 ≤ p2 + 1 ∧ p2 + 1 ≤ 2147483647) ∧ (∀ x39 : Int, x39 = (p2 + 1) → (((0 : Int) ≤ p2 ∧ p2 < ((24 : Nat) : Int)) ∧ (∀ h41 : zHp, h41 = sI h33 364 p2.toNat (gI h33 343 33) → Q (some (vI x39)) h41))))))))))) ∧ (z19 = 1 + ((1 : Nat) : Int) → (wpN G (d - 1) M_X11_laysAll 0 (zar 0 [vR 343, vI p1, vI p2]) [] h20 (qV (fun h44 => zSh h44 ∧ (((0 : Int) ≤ p2 ∧ p2 < ((24 : Nat) : Int)) ∧ (∀ h47 : zHp, h47 = sI h44 364 p2.toNat (gI h44 343 33) → Q (some (vI z15)) h47)))))) ∧ (z19 = 1 + ((2 : Nat) : Int) → (wpN G (d - 1) M_X11_of 0 (zar 0 [vR 343, vI p1, vI p2, vI 4]) [] h20 (qI (fun z49 h50 => zSh h50 ∧ ((-2147483648 ≤ (gI h20 343 33) + z49 ∧ (gI h20 343 33) + z49 ≤ 2147483647) ∧ (∀ h53 : zHp, h53 = sI h50 343 33 ((gI h20 343 33) + z49) → (((0 : Int) ≤ p2 ∧ p2 < ((24 : Nat) : Int)) ∧ (∀ h55 : zHp, h55 = sI h53 364 p2.toNat (gI h53 343 33) → Q (some (vI z15)) h55)))))))) ∧ (z19 = 1 + ((3 : Nat) : Int) → (wpN G (d - 1) M_X11_of 0 (zar 0 [vR 343, vI p1, vI p2, vI 4]) [] h20 (qI (fun z57 h58 => zSh h58 ∧ (wpN G (d - 1) M_X11_aligns 0 (zar 0 [vR 343, vI p3, vI z57]) [] h58 (qV (fun h62 => zSh h62 ∧ (((0 : Int) ≤ p2 ∧ p2 < ((24 : Nat) : Int)) ∧ (∀ h65 : zHp, h65 = sI h62 364 p2.toNat (gI h62 343 33) → Q (some (vI z15)) h65))))))))))))))))) ∧ (0 ≤ z10 → (((0 : Int) ≤ z10 ∧ z10 < ((24 : Nat) : Int)) ∧ (wpN G (d - 1) M_X11_of 0 (zar 0 [vR 343, vI p1, vI p2, vI 3]) [] h11 (qI (fun z67 h68 => zSh h68 ∧ (((gL h11 362 z10.toNat) = z67 → (wpN G (d - 1) M_X11_of 0 (zar 0 [vR 343, vI p1, vI p2, vI 9]) [] h68 (qI (fun z72 h73 => zSh h73 ∧ (wpN G (d - 1) M_X11_of 0 (zar 0 [vR 343, vI p1, vI p2, vI 0]) [] h73 (qI (fun z76 h77 => zSh h77 ∧ ((z76 < 1 ∨ 4 < z76 → (wpN G (d - 1) M_X11_laysAll 0 (zar 0 [vR 343, vI p1, vI p2]) [] h77 (qV (fun h82 => zSh h82 ∧ (((0 : Int) ≤ p2 ∧ p2 < ((24 : Nat) : Int)) ∧ (∀ h85 : zHp, h85 = sI h82 364 p2.toNat (gI h82 343 33) → Q (some (vI z72)) h85)))))) ∧ (z76 = 1 + ((0 : Nat) : Int) → (∀ x87 : Int, x87 = (gI h77 343 41) → (wpN G (d - 1) M_X11_enters 0 (zar 0 [vR 343, vI p1, vI p2]) [] h77 (qV (fun h90 => zSh h90 ∧ (((gI h90 343 41) ≤ x87 → (((0 : Int) ≤ p2 ∧ p2 < ((24 : Nat) : Int)) ∧ (∀ h94 : zHp, h94 = sI h90 364 p2.toNat (gI h90 343 33) → Q (some (vI z72)) h94))) ∧ (x87 < (gI h90 343 41) → ((-2147483648 ≤ p2 + 1 ∧ p2 + 1 ≤ 2147483647) ∧ (∀ x96 : Int, x96 = (p2 + 1) → (((0 : Int) ≤ p2 ∧ p2 < ((24 : Nat) : Int)) ∧ (∀ h98 : zHp, h98 = sI h90 364 p2.toNat (gI h90 343 33) → Q (some (vI x96)) h98))))))))))) ∧ (z76 = 1 + ((1 : Nat) : Int) → (wpN G (d - 1) M_X11_laysAll 0 (zar 0 [vR 343, vI p1, vI p2]) [] h77 (qV (fun h101 => zSh h101 ∧ (((0 : Int) ≤ p2 ∧ p2 < ((24 : Nat) : Int)) ∧ (∀ h104 : zHp, h104 = sI h101 364 p2.toNat (gI h101 343 33) → Q (some (vI z72)) h104)))))) ∧ (z76 = 1 + ((2 : Nat) : Int) → (wpN G (d - 1) M_X11_of 0 (zar 0 [vR 343, vI p1, vI p2, vI 4]) [] h77 (qI (fun z106 h107 => zSh h107 ∧ ((-2147483648 ≤ (gI h77 343 33) + z106 ∧ (gI h77 343 33) + z106 ≤ 2147483647) ∧ (∀ h110 : zHp, h110 = sI h107 343 33 ((gI h77 343 33) + z106) → (((0 : Int) ≤ p2 ∧ p2 < ((24 : Nat) : Int)) ∧ (∀ h112 : zHp, h112 = sI h110 364 p2.toNat (gI h110 343 33) → Q (some (vI z72)) h112)))))))) ∧ (z76 = 1 + ((3 : Nat) : Int) → (wpN G (d - 1) M_X11_of 0 (zar 0 [vR 343, vI p1, vI p2, vI 4]) [] h77 (qI (fun z114 h115 => zSh h115 ∧ (wpN G (d - 1) M_X11_aligns 0 (zar 0 [vR 343, vI p3, vI z114]) [] h115 (qV (fun h119 => zSh h119 ∧ (((0 : Int) ≤ p2 ∧ p2 < ((24 : Nat) : Int)) ∧ (∀ h122 : zHp, h122 = sI h119 364 p2.toNat (gI h119 343 33) → Q (some (vI z72)) h122))))))))))))))))) ∧ ((gL h11 362 z10.toNat) ≠ z67 → (wpN G (d - 1) M_X11_of 0 (zar 0 [vR 343, vI p1, vI p2, vI 9]) [] h68 (qI (fun z124 h125 => zSh h125 ∧ Q (some (vI z124)) h125))))))))))))))))))))) ∧ (400 < (gI h1 343 34) → (∀ h128 : zHp, h128 = sI h1 343 32 3 → Q (some (vI p2)) h128)))))) : wpN G d M_X11_passes 0 [(0, vR 343), (1, vI p1), (2, vI p2), (3, vI p3)] [] h Q := by
  refine wq_aload_n 0 rfl rfl dX11_passes_0 ?_
  refine wq_dup rfl dX11_passes_1 ?_
  refine wq_getI fk_X11_263 tT_343 (fun _ _ _ => rfl) dX11_passes_2 ?_
  refine wq_iconst (z := 1) (zlit rfl) dX11_passes_5 ?_
  refine wq_iadd hv.1 dX11_passes_6 ?_
  refine wq_putI fk_X11_263 tT_343 rfl rfl dX11_passes_7 ?_
  refine wq_toph (fun h1 e2 => ?_)
  have sh1 : zSh h1 := zSh_of e2 hS
  refine wq_aload_n 0 rfl rfl dX11_passes_10 ?_
  refine wq_getI fk_X11_263 tT_343 (fun _ _ _ => rfl) dX11_passes_11 ?_
  refine wq_sipush (z := 400) (zlit rfl) rfl dX11_passes_14 ?_
  refine wq_icmp_le 27 rfl dX11_passes_17 (fun c3 => ?_) (fun c3 => ?_)
  · refine wq_aload_n 0 rfl rfl dX11_passes_27 ?_
    refine wq_getR fk_X11_68 tT_343 (fun _ _ _ => rfl) (sh_11_36 sh1) (by decide) dX11_passes_28 ?_
    refine wq_iload_n 2 rfl rfl dX11_passes_31 ?_
    refine wq_aload_n 0 rfl rfl dX11_passes_32 ?_
    refine wq_getI fk_X11_241 tT_343 (fun _ _ _ => rfl) dX11_passes_33 ?_
    refine wq_iast tT_363 ((hv.2 h1 e2).1 c3).1.1 ((hv.2 h1 e2).1 c3).1.2 dX11_passes_36 ?_
    refine wq_toph (fun h4 e5 => ?_)
    have sh4 : zSh h4 := zSh_of e5 sh1
    refine wq_aload_n 0 rfl rfl dX11_passes_37 ?_
    refine wq_getR fk_X11_71 tT_343 (fun _ _ _ => rfl) (sh_11_37 sh4) (by decide) dX11_passes_38 ?_
    refine wq_iload_n 2 rfl rfl dX11_passes_41 ?_
    refine wq_aload_n 0 rfl rfl dX11_passes_42 ?_
    refine wq_getI fk_X11_241 tT_343 (fun _ _ _ => rfl) dX11_passes_43 ?_
    refine wq_iast tT_364 (((hv.2 h1 e2).1 c3).2 h4 e5).1.1 (((hv.2 h1 e2).1 c3).2 h4 e5).1.2 dX11_passes_46 ?_
    refine wq_toph (fun h6 e7 => ?_)
    have sh6 : zSh h6 := zSh_of e7 sh4
    refine wq_aload_n 0 rfl rfl dX11_passes_47 ?_
    refine wq_getR fk_X11_64 tT_343 (fun _ _ _ => rfl) (sh_11_35 sh6) (by decide) dX11_passes_48 ?_
    refine wq_iload_n 2 rfl rfl dX11_passes_51 ?_
    refine wq_lconst (z := 0) (zlitL rfl) rfl dX11_passes_52 ?_
    refine wq_last tT_362 ((((hv.2 h1 e2).1 c3).2 h4 e5).2 h6 e7).1.1 ((((hv.2 h1 e2).1 c3).2 h4 e5).2 h6 e7).1.2 dX11_passes_53 ?_
    refine wq_toph (fun h8 e9 => ?_)
    have sh8 : zSh h8 := zSh_of e9 sh6
    refine wq_aload_n 0 rfl rfl dX11_passes_54 ?_
    refine wq_iload_n 1 rfl rfl dX11_passes_55 ?_
    refine wq_iload_n 2 rfl rfl dX11_passes_56 ?_
    refine wq_iconst (z := 2) (zlit rfl) dX11_passes_57 ?_
    refine wN_V (As := [vI p1, vI p2, vI 2]) vm_X11_of lk_X11_139 tT_343 rfl rfl (Nat.le_of_ble_eq_true rfl) (Nat.le_of_ble_eq_true rfl) (d' := d - 1) (by omega) dX11_passes_58 (((((hv.2 h1 e2).1 c3).2 h4 e5).2 h6 e7).2 h8 e9) (fun v9 h11 q12 => ?_)
    obtain ⟨z10, rfl, hS13, q12⟩ := q12
    refine wq_st (st' := [vI z10]) rfl ?_
    refine wq_istore (ls' := [(0, vR 343), (1, vI p1), (2, vI p2), (3, vI p3), (4, vI z10)]) (by decide) rfl dX11_passes_61 ?_
    refine wq_iload 4 rfl dX11_passes_63 ?_
    refine wq_if_lt 96 rfl dX11_passes_65 (fun c14 => ?_) (fun c14 => ?_)
    · refine wq_aload_n 0 rfl rfl dX11_passes_96 ?_
      refine wq_iload_n 1 rfl rfl dX11_passes_97 ?_
      refine wq_iload_n 2 rfl rfl dX11_passes_98 ?_
      refine wq_bipush (z := 9) (zlit rfl) rfl dX11_passes_99 ?_
      refine wN_V (As := [vI p1, vI p2, vI 9]) vm_X11_of lk_X11_139 tT_343 rfl rfl (Nat.le_of_ble_eq_true rfl) (Nat.le_of_ble_eq_true rfl) (d' := d - 1) (by omega) dX11_passes_101 (q12.1 c14) (fun v9 h16 q17 => ?_)
      obtain ⟨z15, rfl, hS18, q17⟩ := q17
      refine wq_st (st' := [vI z15]) rfl ?_
      refine wq_istore (ls' := [(0, vR 343), (1, vI p1), (2, vI p2), (3, vI p3), (4, vI z10), (5, vI z15)]) (by decide) rfl dX11_passes_104 ?_
      refine wq_aload_n 0 rfl rfl dX11_passes_106 ?_
      refine wq_iload_n 1 rfl rfl dX11_passes_107 ?_
      refine wq_iload_n 2 rfl rfl dX11_passes_108 ?_
      refine wq_iconst (z := 0) (zlit rfl) dX11_passes_109 ?_
      refine wN_V (As := [vI p1, vI p2, vI 0]) vm_X11_of lk_X11_139 tT_343 rfl rfl (Nat.le_of_ble_eq_true rfl) (Nat.le_of_ble_eq_true rfl) (d' := d - 1) (by omega) dX11_passes_110 q17 (fun v9 h20 q21 => ?_)
      obtain ⟨z19, rfl, hS22, q21⟩ := q21
      refine wq_st (st' := [vI z19]) rfl ?_
      refine wq_tsw 212 [178, 212, 144, 163] rfl rfl rfl dX11_passes_113 (fun c23 => ?_) (fun j tg hj ej => ?_)
      · refine wq_aload_n 0 rfl rfl dX11_passes_212 ?_
        refine wq_iload_n 1 rfl rfl dX11_passes_213 ?_
        refine wq_iload_n 2 rfl rfl dX11_passes_214 ?_
        refine wN_V (As := [vI p1, vI p2]) vm_X11_laysAll lk_X11_272 tT_343 rfl rfl (Nat.le_of_ble_eq_true rfl) (Nat.le_of_ble_eq_true rfl) (d' := d - 1) (by omega) dX11_passes_215 (q21.1 c23) (fun v9 h25 q26 => ?_)
        obtain ⟨rfl, hS27, q26⟩ := q26
        refine wq_st (st' := []) rfl ?_
        refine wq_aload_n 0 rfl rfl dX11_passes_218 ?_
        refine wq_getR fk_X11_71 tT_343 (fun _ _ _ => rfl) (sh_11_37 hS27) (by decide) dX11_passes_219 ?_
        refine wq_iload_n 2 rfl rfl dX11_passes_222 ?_
        refine wq_aload_n 0 rfl rfl dX11_passes_223 ?_
        refine wq_getI fk_X11_241 tT_343 (fun _ _ _ => rfl) dX11_passes_224 ?_
        refine wq_iast tT_364 q26.1.1 q26.1.2 dX11_passes_227 ?_
        refine wq_toph (fun h28 e29 => ?_)
        have sh28 : zSh h28 := zSh_of e29 hS27
        refine wq_iload 5 rfl dX11_passes_228 ?_
        exact wp_iret rfl dX11_passes_230 (q26.2 h28 e29)
      · match j, hj, ej with
        | 0, hj, ej =>
          cases hj
          refine wq_aload_n 0 rfl rfl dX11_passes_178 ?_
          refine wq_getI fk_X11_244 tT_343 (fun _ _ _ => rfl) dX11_passes_179 ?_
          refine wq_topI (fun x30 e31 => ?_)
          refine wq_istore (ls' := [(0, vR 343), (1, vI p1), (2, vI p2), (3, vI p3), (4, vI z10), (5, vI z15), (6, vI x30)]) (by decide) rfl dX11_passes_182 ?_
          refine wq_aload_n 0 rfl rfl dX11_passes_184 ?_
          refine wq_iload_n 1 rfl rfl dX11_passes_185 ?_
          refine wq_iload_n 2 rfl rfl dX11_passes_186 ?_
          refine wN_V (As := [vI p1, vI p2]) vm_X11_enters lk_X11_269 tT_343 rfl rfl (Nat.le_of_ble_eq_true rfl) (Nat.le_of_ble_eq_true rfl) (d' := d - 1) (by omega) dX11_passes_187 ((q21.2.1 ej) x30 e31) (fun v9 h33 q34 => ?_)
          obtain ⟨rfl, hS35, q34⟩ := q34
          refine wq_st (st' := []) rfl ?_
          refine wq_aload_n 0 rfl rfl dX11_passes_190 ?_
          refine wq_getI fk_X11_244 tT_343 (fun _ _ _ => rfl) dX11_passes_191 ?_
          refine wq_iload 6 rfl dX11_passes_194 ?_
          refine wq_icmp_le 205 rfl dX11_passes_196 (fun c36 => ?_) (fun c36 => ?_)
          · refine wq_iload 5 rfl dX11_passes_205 ?_
            refine wq_istore (ls' := [(0, vR 343), (1, vI p1), (2, vI p2), (3, vI p3), (4, vI z10), (5, vI z15), (6, vI x30)]) (by decide) rfl dX11_passes_207 ?_
            refine wq_goto 218 rfl dX11_passes_209 ?_
            refine wq_aload_n 0 rfl rfl dX11_passes_218 ?_
            refine wq_getR fk_X11_71 tT_343 (fun _ _ _ => rfl) (sh_11_37 hS35) (by decide) dX11_passes_219 ?_
            refine wq_iload_n 2 rfl rfl dX11_passes_222 ?_
            refine wq_aload_n 0 rfl rfl dX11_passes_223 ?_
            refine wq_getI fk_X11_241 tT_343 (fun _ _ _ => rfl) dX11_passes_224 ?_
            refine wq_iast tT_364 (q34.1 c36).1.1 (q34.1 c36).1.2 dX11_passes_227 ?_
            refine wq_toph (fun h37 e38 => ?_)
            have sh37 : zSh h37 := zSh_of e38 hS35
            refine wq_iload 5 rfl dX11_passes_228 ?_
            exact wp_iret rfl dX11_passes_230 ((q34.1 c36).2 h37 e38)
          · refine wq_iload_n 2 rfl rfl dX11_passes_199 ?_
            refine wq_iconst (z := 1) (zlit rfl) dX11_passes_200 ?_
            refine wq_iadd (q34.2 c36).1 dX11_passes_201 ?_
            refine wq_goto 207 rfl dX11_passes_202 ?_
            refine wq_topI (fun x39 e40 => ?_)
            refine wq_istore (ls' := [(0, vR 343), (1, vI p1), (2, vI p2), (3, vI p3), (4, vI z10), (5, vI x39), (6, vI x30)]) (by decide) rfl dX11_passes_207 ?_
            refine wq_goto 218 rfl dX11_passes_209 ?_
            refine wq_aload_n 0 rfl rfl dX11_passes_218 ?_
            refine wq_getR fk_X11_71 tT_343 (fun _ _ _ => rfl) (sh_11_37 hS35) (by decide) dX11_passes_219 ?_
            refine wq_iload_n 2 rfl rfl dX11_passes_222 ?_
            refine wq_aload_n 0 rfl rfl dX11_passes_223 ?_
            refine wq_getI fk_X11_241 tT_343 (fun _ _ _ => rfl) dX11_passes_224 ?_
            refine wq_iast tT_364 ((q34.2 c36).2 x39 e40).1.1 ((q34.2 c36).2 x39 e40).1.2 dX11_passes_227 ?_
            refine wq_toph (fun h41 e42 => ?_)
            have sh41 : zSh h41 := zSh_of e42 hS35
            refine wq_iload 5 rfl dX11_passes_228 ?_
            exact wp_iret rfl dX11_passes_230 (((q34.2 c36).2 x39 e40).2 h41 e42)
        | 1, hj, ej =>
          cases hj
          refine wq_aload_n 0 rfl rfl dX11_passes_212 ?_
          refine wq_iload_n 1 rfl rfl dX11_passes_213 ?_
          refine wq_iload_n 2 rfl rfl dX11_passes_214 ?_
          refine wN_V (As := [vI p1, vI p2]) vm_X11_laysAll lk_X11_272 tT_343 rfl rfl (Nat.le_of_ble_eq_true rfl) (Nat.le_of_ble_eq_true rfl) (d' := d - 1) (by omega) dX11_passes_215 (q21.2.2.1 ej) (fun v9 h44 q45 => ?_)
          obtain ⟨rfl, hS46, q45⟩ := q45
          refine wq_st (st' := []) rfl ?_
          refine wq_aload_n 0 rfl rfl dX11_passes_218 ?_
          refine wq_getR fk_X11_71 tT_343 (fun _ _ _ => rfl) (sh_11_37 hS46) (by decide) dX11_passes_219 ?_
          refine wq_iload_n 2 rfl rfl dX11_passes_222 ?_
          refine wq_aload_n 0 rfl rfl dX11_passes_223 ?_
          refine wq_getI fk_X11_241 tT_343 (fun _ _ _ => rfl) dX11_passes_224 ?_
          refine wq_iast tT_364 q45.1.1 q45.1.2 dX11_passes_227 ?_
          refine wq_toph (fun h47 e48 => ?_)
          have sh47 : zSh h47 := zSh_of e48 hS46
          refine wq_iload 5 rfl dX11_passes_228 ?_
          exact wp_iret rfl dX11_passes_230 (q45.2 h47 e48)
        | 2, hj, ej =>
          cases hj
          refine wq_aload_n 0 rfl rfl dX11_passes_144 ?_
          refine wq_dup rfl dX11_passes_145 ?_
          refine wq_getI fk_X11_241 tT_343 (fun _ _ _ => rfl) dX11_passes_146 ?_
          refine wq_aload_n 0 rfl rfl dX11_passes_149 ?_
          refine wq_iload_n 1 rfl rfl dX11_passes_150 ?_
          refine wq_iload_n 2 rfl rfl dX11_passes_151 ?_
          refine wq_iconst (z := 4) (zlit rfl) dX11_passes_152 ?_
          refine wN_V (As := [vI p1, vI p2, vI 4]) vm_X11_of lk_X11_139 tT_343 rfl rfl (Nat.le_of_ble_eq_true rfl) (Nat.le_of_ble_eq_true rfl) (d' := d - 1) (by omega) dX11_passes_153 (q21.2.2.2.1 ej) (fun v9 h50 q51 => ?_)
          obtain ⟨z49, rfl, hS52, q51⟩ := q51
          refine wq_st (st' := [vI z49, vI (gI h20 343 33), vR 343]) rfl ?_
          refine wq_iadd q51.1 dX11_passes_156 ?_
          refine wq_putI fk_X11_241 tT_343 rfl rfl dX11_passes_157 ?_
          refine wq_toph (fun h53 e54 => ?_)
          have sh53 : zSh h53 := zSh_of e54 hS52
          refine wq_goto 218 rfl dX11_passes_160 ?_
          refine wq_aload_n 0 rfl rfl dX11_passes_218 ?_
          refine wq_getR fk_X11_71 tT_343 (fun _ _ _ => rfl) (sh_11_37 sh53) (by decide) dX11_passes_219 ?_
          refine wq_iload_n 2 rfl rfl dX11_passes_222 ?_
          refine wq_aload_n 0 rfl rfl dX11_passes_223 ?_
          refine wq_getI fk_X11_241 tT_343 (fun _ _ _ => rfl) dX11_passes_224 ?_
          refine wq_iast tT_364 (q51.2 h53 e54).1.1 (q51.2 h53 e54).1.2 dX11_passes_227 ?_
          refine wq_toph (fun h55 e56 => ?_)
          have sh55 : zSh h55 := zSh_of e56 sh53
          refine wq_iload 5 rfl dX11_passes_228 ?_
          exact wp_iret rfl dX11_passes_230 ((q51.2 h53 e54).2 h55 e56)
        | 3, hj, ej =>
          cases hj
          refine wq_aload_n 0 rfl rfl dX11_passes_163 ?_
          refine wq_iload_n 3 rfl rfl dX11_passes_164 ?_
          refine wq_aload_n 0 rfl rfl dX11_passes_165 ?_
          refine wq_iload_n 1 rfl rfl dX11_passes_166 ?_
          refine wq_iload_n 2 rfl rfl dX11_passes_167 ?_
          refine wq_iconst (z := 4) (zlit rfl) dX11_passes_168 ?_
          refine wN_V (As := [vI p1, vI p2, vI 4]) vm_X11_of lk_X11_139 tT_343 rfl rfl (Nat.le_of_ble_eq_true rfl) (Nat.le_of_ble_eq_true rfl) (d' := d - 1) (by omega) dX11_passes_169 (q21.2.2.2.2 ej) (fun v9 h58 q59 => ?_)
          obtain ⟨z57, rfl, hS60, q59⟩ := q59
          refine wq_st (st' := [vI z57, vI p3, vR 343]) rfl ?_
          refine wN_V (As := [vI p3, vI z57]) vm_X11_aligns lk_X11_266 tT_343 rfl rfl (Nat.le_of_ble_eq_true rfl) (Nat.le_of_ble_eq_true rfl) (d' := d - 1) (by omega) dX11_passes_172 q59 (fun v9 h62 q63 => ?_)
          obtain ⟨rfl, hS64, q63⟩ := q63
          refine wq_st (st' := []) rfl ?_
          refine wq_goto 218 rfl dX11_passes_175 ?_
          refine wq_aload_n 0 rfl rfl dX11_passes_218 ?_
          refine wq_getR fk_X11_71 tT_343 (fun _ _ _ => rfl) (sh_11_37 hS64) (by decide) dX11_passes_219 ?_
          refine wq_iload_n 2 rfl rfl dX11_passes_222 ?_
          refine wq_aload_n 0 rfl rfl dX11_passes_223 ?_
          refine wq_getI fk_X11_241 tT_343 (fun _ _ _ => rfl) dX11_passes_224 ?_
          refine wq_iast tT_364 q63.1.1 q63.1.2 dX11_passes_227 ?_
          refine wq_toph (fun h65 e66 => ?_)
          have sh65 : zSh h65 := zSh_of e66 hS64
          refine wq_iload 5 rfl dX11_passes_228 ?_
          exact wp_iret rfl dX11_passes_230 (q63.2 h65 e66)
        | j + 4, hj, ej => exact absurd hj (by simp)
    · refine wq_aload_n 0 rfl rfl dX11_passes_68 ?_
      refine wq_getR fk_X11_64 tT_343 (fun _ _ _ => rfl) (sh_11_35 hS13) (by decide) dX11_passes_69 ?_
      refine wq_iload 4 rfl dX11_passes_72 ?_
      refine wq_lald tT_362 (q12.2 c14).1.1 (q12.2 c14).1.2 dX11_passes_74 ?_
      refine wq_aload_n 0 rfl rfl dX11_passes_75 ?_
      refine wq_iload_n 1 rfl rfl dX11_passes_76 ?_
      refine wq_iload_n 2 rfl rfl dX11_passes_77 ?_
      refine wq_iconst (z := 3) (zlit rfl) dX11_passes_78 ?_
      refine wN_V (As := [vI p1, vI p2, vI 3]) vm_X11_of lk_X11_139 tT_343 rfl rfl (Nat.le_of_ble_eq_true rfl) (Nat.le_of_ble_eq_true rfl) (d' := d - 1) (by omega) dX11_passes_79 (q12.2 c14).2 (fun v9 h68 q69 => ?_)
      obtain ⟨z67, rfl, hS70, q69⟩ := q69
      refine wq_st (st' := [vI z67, vL (gL h11 362 z10.toNat)]) rfl ?_
      refine wq_i2l dX11_passes_82 ?_
      refine wq_lcmp_eq 96 rfl dX11_passes_83 dX11_passes_84 (fun c71 => ?_) (fun c71 => ?_)
      · refine wq_aload_n 0 rfl rfl dX11_passes_96 ?_
        refine wq_iload_n 1 rfl rfl dX11_passes_97 ?_
        refine wq_iload_n 2 rfl rfl dX11_passes_98 ?_
        refine wq_bipush (z := 9) (zlit rfl) rfl dX11_passes_99 ?_
        refine wN_V (As := [vI p1, vI p2, vI 9]) vm_X11_of lk_X11_139 tT_343 rfl rfl (Nat.le_of_ble_eq_true rfl) (Nat.le_of_ble_eq_true rfl) (d' := d - 1) (by omega) dX11_passes_101 (q69.1 c71) (fun v9 h73 q74 => ?_)
        obtain ⟨z72, rfl, hS75, q74⟩ := q74
        refine wq_st (st' := [vI z72]) rfl ?_
        refine wq_istore (ls' := [(0, vR 343), (1, vI p1), (2, vI p2), (3, vI p3), (4, vI z10), (5, vI z72)]) (by decide) rfl dX11_passes_104 ?_
        refine wq_aload_n 0 rfl rfl dX11_passes_106 ?_
        refine wq_iload_n 1 rfl rfl dX11_passes_107 ?_
        refine wq_iload_n 2 rfl rfl dX11_passes_108 ?_
        refine wq_iconst (z := 0) (zlit rfl) dX11_passes_109 ?_
        refine wN_V (As := [vI p1, vI p2, vI 0]) vm_X11_of lk_X11_139 tT_343 rfl rfl (Nat.le_of_ble_eq_true rfl) (Nat.le_of_ble_eq_true rfl) (d' := d - 1) (by omega) dX11_passes_110 q74 (fun v9 h77 q78 => ?_)
        obtain ⟨z76, rfl, hS79, q78⟩ := q78
        refine wq_st (st' := [vI z76]) rfl ?_
        refine wq_tsw 212 [178, 212, 144, 163] rfl rfl rfl dX11_passes_113 (fun c80 => ?_) (fun j tg hj ej => ?_)
        · refine wq_aload_n 0 rfl rfl dX11_passes_212 ?_
          refine wq_iload_n 1 rfl rfl dX11_passes_213 ?_
          refine wq_iload_n 2 rfl rfl dX11_passes_214 ?_
          refine wN_V (As := [vI p1, vI p2]) vm_X11_laysAll lk_X11_272 tT_343 rfl rfl (Nat.le_of_ble_eq_true rfl) (Nat.le_of_ble_eq_true rfl) (d' := d - 1) (by omega) dX11_passes_215 (q78.1 c80) (fun v9 h82 q83 => ?_)
          obtain ⟨rfl, hS84, q83⟩ := q83
          refine wq_st (st' := []) rfl ?_
          refine wq_aload_n 0 rfl rfl dX11_passes_218 ?_
          refine wq_getR fk_X11_71 tT_343 (fun _ _ _ => rfl) (sh_11_37 hS84) (by decide) dX11_passes_219 ?_
          refine wq_iload_n 2 rfl rfl dX11_passes_222 ?_
          refine wq_aload_n 0 rfl rfl dX11_passes_223 ?_
          refine wq_getI fk_X11_241 tT_343 (fun _ _ _ => rfl) dX11_passes_224 ?_
          refine wq_iast tT_364 q83.1.1 q83.1.2 dX11_passes_227 ?_
          refine wq_toph (fun h85 e86 => ?_)
          have sh85 : zSh h85 := zSh_of e86 hS84
          refine wq_iload 5 rfl dX11_passes_228 ?_
          exact wp_iret rfl dX11_passes_230 (q83.2 h85 e86)
        · match j, hj, ej with
          | 0, hj, ej =>
            cases hj
            refine wq_aload_n 0 rfl rfl dX11_passes_178 ?_
            refine wq_getI fk_X11_244 tT_343 (fun _ _ _ => rfl) dX11_passes_179 ?_
            refine wq_topI (fun x87 e88 => ?_)
            refine wq_istore (ls' := [(0, vR 343), (1, vI p1), (2, vI p2), (3, vI p3), (4, vI z10), (5, vI z72), (6, vI x87)]) (by decide) rfl dX11_passes_182 ?_
            refine wq_aload_n 0 rfl rfl dX11_passes_184 ?_
            refine wq_iload_n 1 rfl rfl dX11_passes_185 ?_
            refine wq_iload_n 2 rfl rfl dX11_passes_186 ?_
            refine wN_V (As := [vI p1, vI p2]) vm_X11_enters lk_X11_269 tT_343 rfl rfl (Nat.le_of_ble_eq_true rfl) (Nat.le_of_ble_eq_true rfl) (d' := d - 1) (by omega) dX11_passes_187 ((q78.2.1 ej) x87 e88) (fun v9 h90 q91 => ?_)
            obtain ⟨rfl, hS92, q91⟩ := q91
            refine wq_st (st' := []) rfl ?_
            refine wq_aload_n 0 rfl rfl dX11_passes_190 ?_
            refine wq_getI fk_X11_244 tT_343 (fun _ _ _ => rfl) dX11_passes_191 ?_
            refine wq_iload 6 rfl dX11_passes_194 ?_
            refine wq_icmp_le 205 rfl dX11_passes_196 (fun c93 => ?_) (fun c93 => ?_)
            · refine wq_iload 5 rfl dX11_passes_205 ?_
              refine wq_istore (ls' := [(0, vR 343), (1, vI p1), (2, vI p2), (3, vI p3), (4, vI z10), (5, vI z72), (6, vI x87)]) (by decide) rfl dX11_passes_207 ?_
              refine wq_goto 218 rfl dX11_passes_209 ?_
              refine wq_aload_n 0 rfl rfl dX11_passes_218 ?_
              refine wq_getR fk_X11_71 tT_343 (fun _ _ _ => rfl) (sh_11_37 hS92) (by decide) dX11_passes_219 ?_
              refine wq_iload_n 2 rfl rfl dX11_passes_222 ?_
              refine wq_aload_n 0 rfl rfl dX11_passes_223 ?_
              refine wq_getI fk_X11_241 tT_343 (fun _ _ _ => rfl) dX11_passes_224 ?_
              refine wq_iast tT_364 (q91.1 c93).1.1 (q91.1 c93).1.2 dX11_passes_227 ?_
              refine wq_toph (fun h94 e95 => ?_)
              have sh94 : zSh h94 := zSh_of e95 hS92
              refine wq_iload 5 rfl dX11_passes_228 ?_
              exact wp_iret rfl dX11_passes_230 ((q91.1 c93).2 h94 e95)
            · refine wq_iload_n 2 rfl rfl dX11_passes_199 ?_
              refine wq_iconst (z := 1) (zlit rfl) dX11_passes_200 ?_
              refine wq_iadd (q91.2 c93).1 dX11_passes_201 ?_
              refine wq_goto 207 rfl dX11_passes_202 ?_
              refine wq_topI (fun x96 e97 => ?_)
              refine wq_istore (ls' := [(0, vR 343), (1, vI p1), (2, vI p2), (3, vI p3), (4, vI z10), (5, vI x96), (6, vI x87)]) (by decide) rfl dX11_passes_207 ?_
              refine wq_goto 218 rfl dX11_passes_209 ?_
              refine wq_aload_n 0 rfl rfl dX11_passes_218 ?_
              refine wq_getR fk_X11_71 tT_343 (fun _ _ _ => rfl) (sh_11_37 hS92) (by decide) dX11_passes_219 ?_
              refine wq_iload_n 2 rfl rfl dX11_passes_222 ?_
              refine wq_aload_n 0 rfl rfl dX11_passes_223 ?_
              refine wq_getI fk_X11_241 tT_343 (fun _ _ _ => rfl) dX11_passes_224 ?_
              refine wq_iast tT_364 ((q91.2 c93).2 x96 e97).1.1 ((q91.2 c93).2 x96 e97).1.2 dX11_passes_227 ?_
              refine wq_toph (fun h98 e99 => ?_)
              have sh98 : zSh h98 := zSh_of e99 hS92
              refine wq_iload 5 rfl dX11_passes_228 ?_
              exact wp_iret rfl dX11_passes_230 (((q91.2 c93).2 x96 e97).2 h98 e99)
          | 1, hj, ej =>
            cases hj
            refine wq_aload_n 0 rfl rfl dX11_passes_212 ?_
            refine wq_iload_n 1 rfl rfl dX11_passes_213 ?_
            refine wq_iload_n 2 rfl rfl dX11_passes_214 ?_
            refine wN_V (As := [vI p1, vI p2]) vm_X11_laysAll lk_X11_272 tT_343 rfl rfl (Nat.le_of_ble_eq_true rfl) (Nat.le_of_ble_eq_true rfl) (d' := d - 1) (by omega) dX11_passes_215 (q78.2.2.1 ej) (fun v9 h101 q102 => ?_)
            obtain ⟨rfl, hS103, q102⟩ := q102
            refine wq_st (st' := []) rfl ?_
            refine wq_aload_n 0 rfl rfl dX11_passes_218 ?_
            refine wq_getR fk_X11_71 tT_343 (fun _ _ _ => rfl) (sh_11_37 hS103) (by decide) dX11_passes_219 ?_
            refine wq_iload_n 2 rfl rfl dX11_passes_222 ?_
            refine wq_aload_n 0 rfl rfl dX11_passes_223 ?_
            refine wq_getI fk_X11_241 tT_343 (fun _ _ _ => rfl) dX11_passes_224 ?_
            refine wq_iast tT_364 q102.1.1 q102.1.2 dX11_passes_227 ?_
            refine wq_toph (fun h104 e105 => ?_)
            have sh104 : zSh h104 := zSh_of e105 hS103
            refine wq_iload 5 rfl dX11_passes_228 ?_
            exact wp_iret rfl dX11_passes_230 (q102.2 h104 e105)
          | 2, hj, ej =>
            cases hj
            refine wq_aload_n 0 rfl rfl dX11_passes_144 ?_
            refine wq_dup rfl dX11_passes_145 ?_
            refine wq_getI fk_X11_241 tT_343 (fun _ _ _ => rfl) dX11_passes_146 ?_
            refine wq_aload_n 0 rfl rfl dX11_passes_149 ?_
            refine wq_iload_n 1 rfl rfl dX11_passes_150 ?_
            refine wq_iload_n 2 rfl rfl dX11_passes_151 ?_
            refine wq_iconst (z := 4) (zlit rfl) dX11_passes_152 ?_
            refine wN_V (As := [vI p1, vI p2, vI 4]) vm_X11_of lk_X11_139 tT_343 rfl rfl (Nat.le_of_ble_eq_true rfl) (Nat.le_of_ble_eq_true rfl) (d' := d - 1) (by omega) dX11_passes_153 (q78.2.2.2.1 ej) (fun v9 h107 q108 => ?_)
            obtain ⟨z106, rfl, hS109, q108⟩ := q108
            refine wq_st (st' := [vI z106, vI (gI h77 343 33), vR 343]) rfl ?_
            refine wq_iadd q108.1 dX11_passes_156 ?_
            refine wq_putI fk_X11_241 tT_343 rfl rfl dX11_passes_157 ?_
            refine wq_toph (fun h110 e111 => ?_)
            have sh110 : zSh h110 := zSh_of e111 hS109
            refine wq_goto 218 rfl dX11_passes_160 ?_
            refine wq_aload_n 0 rfl rfl dX11_passes_218 ?_
            refine wq_getR fk_X11_71 tT_343 (fun _ _ _ => rfl) (sh_11_37 sh110) (by decide) dX11_passes_219 ?_
            refine wq_iload_n 2 rfl rfl dX11_passes_222 ?_
            refine wq_aload_n 0 rfl rfl dX11_passes_223 ?_
            refine wq_getI fk_X11_241 tT_343 (fun _ _ _ => rfl) dX11_passes_224 ?_
            refine wq_iast tT_364 (q108.2 h110 e111).1.1 (q108.2 h110 e111).1.2 dX11_passes_227 ?_
            refine wq_toph (fun h112 e113 => ?_)
            have sh112 : zSh h112 := zSh_of e113 sh110
            refine wq_iload 5 rfl dX11_passes_228 ?_
            exact wp_iret rfl dX11_passes_230 ((q108.2 h110 e111).2 h112 e113)
          | 3, hj, ej =>
            cases hj
            refine wq_aload_n 0 rfl rfl dX11_passes_163 ?_
            refine wq_iload_n 3 rfl rfl dX11_passes_164 ?_
            refine wq_aload_n 0 rfl rfl dX11_passes_165 ?_
            refine wq_iload_n 1 rfl rfl dX11_passes_166 ?_
            refine wq_iload_n 2 rfl rfl dX11_passes_167 ?_
            refine wq_iconst (z := 4) (zlit rfl) dX11_passes_168 ?_
            refine wN_V (As := [vI p1, vI p2, vI 4]) vm_X11_of lk_X11_139 tT_343 rfl rfl (Nat.le_of_ble_eq_true rfl) (Nat.le_of_ble_eq_true rfl) (d' := d - 1) (by omega) dX11_passes_169 (q78.2.2.2.2 ej) (fun v9 h115 q116 => ?_)
            obtain ⟨z114, rfl, hS117, q116⟩ := q116
            refine wq_st (st' := [vI z114, vI p3, vR 343]) rfl ?_
            refine wN_V (As := [vI p3, vI z114]) vm_X11_aligns lk_X11_266 tT_343 rfl rfl (Nat.le_of_ble_eq_true rfl) (Nat.le_of_ble_eq_true rfl) (d' := d - 1) (by omega) dX11_passes_172 q116 (fun v9 h119 q120 => ?_)
            obtain ⟨rfl, hS121, q120⟩ := q120
            refine wq_st (st' := []) rfl ?_
            refine wq_goto 218 rfl dX11_passes_175 ?_
            refine wq_aload_n 0 rfl rfl dX11_passes_218 ?_
            refine wq_getR fk_X11_71 tT_343 (fun _ _ _ => rfl) (sh_11_37 hS121) (by decide) dX11_passes_219 ?_
            refine wq_iload_n 2 rfl rfl dX11_passes_222 ?_
            refine wq_aload_n 0 rfl rfl dX11_passes_223 ?_
            refine wq_getI fk_X11_241 tT_343 (fun _ _ _ => rfl) dX11_passes_224 ?_
            refine wq_iast tT_364 q120.1.1 q120.1.2 dX11_passes_227 ?_
            refine wq_toph (fun h122 e123 => ?_)
            have sh122 : zSh h122 := zSh_of e123 hS121
            refine wq_iload 5 rfl dX11_passes_228 ?_
            exact wp_iret rfl dX11_passes_230 (q120.2 h122 e123)
          | j + 4, hj, ej => exact absurd hj (by simp)
      · refine wq_aload_n 0 rfl rfl dX11_passes_87 ?_
        refine wq_iload_n 1 rfl rfl dX11_passes_88 ?_
        refine wq_iload_n 2 rfl rfl dX11_passes_89 ?_
        refine wq_bipush (z := 9) (zlit rfl) rfl dX11_passes_90 ?_
        refine wN_V (As := [vI p1, vI p2, vI 9]) vm_X11_of lk_X11_139 tT_343 rfl rfl (Nat.le_of_ble_eq_true rfl) (Nat.le_of_ble_eq_true rfl) (d' := d - 1) (by omega) dX11_passes_92 (q69.2 c71) (fun v9 h125 q126 => ?_)
        obtain ⟨z124, rfl, hS127, q126⟩ := q126
        refine wq_st (st' := [vI z124]) rfl ?_
        exact wp_iret rfl dX11_passes_95 q126
  · refine wq_aload_n 0 rfl rfl dX11_passes_20 ?_
    refine wq_iconst (z := 3) (zlit rfl) dX11_passes_21 ?_
    refine wq_putI fk_X11_238 tT_343 rfl rfl dX11_passes_22 ?_
    refine wq_toph (fun h128 e129 => ?_)
    have sh128 : zSh h128 := zSh_of e129 sh1
    refine wq_iload_n 2 rfl rfl dX11_passes_25 ?_
    exact wp_iret rfl dX11_passes_26 (((hv.2 h1 e2).2 c3) h128 e129)
