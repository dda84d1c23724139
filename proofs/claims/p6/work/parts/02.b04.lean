theorem dX12_init_47 : decode cX12_init 47 = .ok (.newarray .int, 2) := by decide +kernel
theorem dX12_init_49 : decode cX12_init 49 = .ok (.putfield 26, 3) := by decide +kernel
theorem dX12_init_52 : decode cX12_init 52 = .ok (.aload_n 0, 1) := by decide +kernel
theorem dX12_init_53 : decode cX12_init 53 = .ok (.bipush 60, 2) := by decide +kernel
theorem dX12_init_55 : decode cX12_init 55 = .ok (.newarray .int, 2) := by decide +kernel
theorem dX12_init_57 : decode cX12_init 57 = .ok (.putfield 29, 3) := by decide +kernel
theorem dX12_init_60 : decode cX12_init 60 = .ok (.aload_n 0, 1) := by decide +kernel
theorem dX12_init_61 : decode cX12_init 61 = .ok (.bipush 40, 2) := by decide +kernel
theorem dX12_init_63 : decode cX12_init 63 = .ok (.newarray .int, 2) := by decide +kernel
theorem dX12_init_65 : decode cX12_init 65 = .ok (.putfield 32, 3) := by decide +kernel
theorem dX12_init_68 : decode cX12_init 68 = .ok (.aload_n 0, 1) := by decide +kernel
theorem dX12_init_69 : decode cX12_init 69 = .ok (.bipush 40, 2) := by decide +kernel
theorem dX12_init_71 : decode cX12_init 71 = .ok (.newarray .int, 2) := by decide +kernel
theorem dX12_init_73 : decode cX12_init 73 = .ok (.putfield 35, 3) := by decide +kernel
theorem dX12_init_76 : decode cX12_init 76 = .ok (.aload_n 0, 1) := by decide +kernel
theorem dX12_init_77 : decode cX12_init 77 = .ok (.bipush 40, 2) := by decide +kernel
theorem dX12_init_79 : decode cX12_init 79 = .ok (.newarray .boolean, 2) := by decide +kernel
theorem dX12_init_81 : decode cX12_init 81 = .ok (.putfield 38, 3) := by decide +kernel
theorem dX12_init_84 : decode cX12_init 84 = .ok (.aload_n 0, 1) := by decide +kernel
theorem dX12_init_85 : decode cX12_init 85 = .ok (.bipush 40, 2) := by decide +kernel
theorem dX12_init_87 : decode cX12_init 87 = .ok (.newarray .boolean, 2) := by decide +kernel
theorem dX12_init_89 : decode cX12_init 89 = .ok (.putfield 41, 3) := by decide +kernel
theorem dX12_init_92 : decode cX12_init 92 = .ok (.aload_n 0, 1) := by decide +kernel
theorem dX12_init_93 : decode cX12_init 93 = .ok (.bipush 40, 2) := by decide +kernel
theorem dX12_init_95 : decode cX12_init 95 = .ok (.newarray .int, 2) := by decide +kernel
theorem dX12_init_97 : decode cX12_init 97 = .ok (.putfield 44, 3) := by decide +kernel
theorem dX12_init_100 : decode cX12_init 100 = .ok (.aload_n 0, 1) := by decide +kernel
theorem dX12_init_101 : decode cX12_init 101 = .ok (.bipush 40, 2) := by decide +kernel
theorem dX12_init_103 : decode cX12_init 103 = .ok (.newarray .int, 2) := by decide +kernel
theorem dX12_init_105 : decode cX12_init 105 = .ok (.putfield 47, 3) := by decide +kernel
theorem dX12_init_108 : decode cX12_init 108 = .ok (.aload_n 0, 1) := by decide +kernel
theorem dX12_init_109 : decode cX12_init 109 = .ok (.bipush 40, 2) := by decide +kernel
theorem dX12_init_111 : decode cX12_init 111 = .ok (.newarray .int, 2) := by decide +kernel
theorem dX12_init_113 : decode cX12_init 113 = .ok (.putfield 50, 3) := by decide +kernel
theorem dX12_init_116 : decode cX12_init 116 = .ok (.aload_n 0, 1) := by decide +kernel
theorem dX12_init_117 : decode cX12_init 117 = .ok (.bipush 40, 2) := by decide +kernel
theorem dX12_init_119 : decode cX12_init 119 = .ok (.newarray .int, 2) := by decide +kernel
theorem dX12_init_121 : decode cX12_init 121 = .ok (.putfield 53, 3) := by decide +kernel
theorem dX12_init_124 : decode cX12_init 124 = .ok (.aload_n 0, 1) := by decide +kernel
theorem dX12_init_125 : decode cX12_init 125 = .ok (.bipush 40, 2) := by decide +kernel
theorem dX12_init_127 : decode cX12_init 127 = .ok (.newarray .int, 2) := by decide +kernel
theorem dX12_init_129 : decode cX12_init 129 = .ok (.putfield 56, 3) := by decide +kernel
theorem dX12_init_132 : decode cX12_init 132 = .ok (.aload_n 0, 1) := by decide +kernel
theorem dX12_init_133 : decode cX12_init 133 = .ok (.bipush 40, 2) := by decide +kernel
theorem dX12_init_135 : decode cX12_init 135 = .ok (.newarray .int, 2) := by decide +kernel
theorem dX12_init_137 : decode cX12_init 137 = .ok (.putfield 59, 3) := by decide +kernel
theorem dX12_init_140 : decode cX12_init 140 = .ok (.aload_n 0, 1) := by decide +kernel
theorem dX12_init_141 : decode cX12_init 141 = .ok (.bipush 40, 2) := by decide +kernel
theorem dX12_init_143 : decode cX12_init 143 = .ok (.newarray .int, 2) := by decide +kernel
theorem dX12_init_145 : decode cX12_init 145 = .ok (.putfield 62, 3) := by decide +kernel
theorem dX12_init_148 : decode cX12_init 148 = .ok (.aload_n 0, 1) := by decide +kernel
theorem dX12_init_149 : decode cX12_init 149 = .ok (.bipush 40, 2) := by decide +kernel
theorem dX12_init_151 : decode cX12_init 151 = .ok (.newarray .int, 2) := by decide +kernel
theorem dX12_init_153 : decode cX12_init 153 = .ok (.putfield 65, 3) := by decide +kernel
theorem dX12_init_156 : decode cX12_init 156 = .ok (.aload_n 0, 1) := by decide +kernel
theorem dX12_init_157 : decode cX12_init 157 = .ok (.bipush 100, 2) := by decide +kernel
theorem dX12_init_159 : decode cX12_init 159 = .ok (.newarray .int, 2) := by decide +kernel
theorem dX12_init_161 : decode cX12_init 161 = .ok (.putfield 68, 3) := by decide +kernel
theorem dX12_init_164 : decode cX12_init 164 = .ok (.aload_n 0, 1) := by decide +kernel
theorem dX12_init_165 : decode cX12_init 165 = .ok (.bipush 100, 2) := by decide +kernel
theorem dX12_init_167 : decode cX12_init 167 = .ok (.newarray .int, 2) := by decide +kernel
theorem dX12_init_169 : decode cX12_init 169 = .ok (.putfield 71, 3) := by decide +kernel
theorem dX12_init_172 : decode cX12_init 172 = .ok (.aload_n 0, 1) := by decide +kernel
theorem dX12_init_173 : decode cX12_init 173 = .ok (.bipush 100, 2) := by decide +kernel
theorem dX12_init_175 : decode cX12_init 175 = .ok (.newarray .int, 2) := by decide +kernel
theorem dX12_init_177 : decode cX12_init 177 = .ok (.putfield 74, 3) := by decide +kernel
theorem dX12_init_180 : decode cX12_init 180 = .ok (.aload_n 0, 1) := by decide +kernel
theorem dX12_init_181 : decode cX12_init 181 = .ok (.bipush 6, 2) := by decide +kernel
theorem dX12_init_183 : decode cX12_init 183 = .ok (.newarray .int, 2) := by decide +kernel
theorem dX12_init_185 : decode cX12_init 185 = .ok (.putfield 77, 3) := by decide +kernel
theorem dX12_init_188 : decode cX12_init 188 = .ok (.aload_n 0, 1) := by decide +kernel
theorem dX12_init_189 : decode cX12_init 189 = .ok (.sipush 4380, 3) := by decide +kernel
theorem dX12_init_192 : decode cX12_init 192 = .ok (.newarray .int, 2) := by decide +kernel
theorem dX12_init_194 : decode cX12_init 194 = .ok (.putfield 80, 3) := by decide +kernel
theorem dX12_init_197 : decode cX12_init 197 = .ok (.aload_n 0, 1) := by decide +kernel
theorem dX12_init_198 : decode cX12_init 198 = .ok (.sipush 1095, 3) := by decide +kernel
theorem dX12_init_201 : decode cX12_init 201 = .ok (.newarray .int, 2) := by decide +kernel
theorem dX12_init_203 : decode cX12_init 203 = .ok (.putfield 83, 3) := by decide +kernel
theorem dX12_init_206 : decode cX12_init 206 = .ok (.aload_n 0, 1) := by decide +kernel
theorem dX12_init_207 : decode cX12_init 207 = .ok (.sipush 1095, 3) := by decide +kernel
theorem dX12_init_210 : decode cX12_init 210 = .ok (.newarray .int, 2) := by decide +kernel
theorem dX12_init_212 : decode cX12_init 212 = .ok (.putfield 86, 3) := by decide +kernel
theorem dX12_init_215 : decode cX12_init 215 = .ok (.aload_n 0, 1) := by decide +kernel
theorem dX12_init_216 : decode cX12_init 216 = .ok (.sipush 1095, 3) := by decide +kernel
theorem dX12_init_219 : decode cX12_init 219 = .ok (.newarray .int, 2) := by decide +kernel
theorem dX12_init_221 : decode cX12_init 221 = .ok (.putfield 89, 3) := by decide +kernel
theorem dX12_init_224 : decode cX12_init 224 = .ok (.aload_n 0, 1) := by decide +kernel
theorem dX12_init_225 : decode cX12_init 225 = .ok (.sipush 1095, 3) := by decide +kernel
theorem dX12_init_228 : decode cX12_init 228 = .ok (.newarray .int, 2) := by decide +kernel
theorem dX12_init_230 : decode cX12_init 230 = .ok (.putfield 92, 3) := by decide +kernel
theorem dX12_init_233 : decode cX12_init 233 = .ok (.aload_n 0, 1) := by decide +kernel
theorem dX12_init_234 : decode cX12_init 234 = .ok (.sipush 1095, 3) := by decide +kernel
theorem dX12_init_237 : decode cX12_init 237 = .ok (.newarray .int, 2) := by decide +kernel
theorem dX12_init_239 : decode cX12_init 239 = .ok (.putfield 95, 3) := by decide +kernel
theorem dX12_init_242 : decode cX12_init 242 = .ok (.aload_n 0, 1) := by decide +kernel
theorem dX12_init_243 : decode cX12_init 243 = .ok (.sipush 365, 3) := by decide +kernel
theorem dX12_init_246 : decode cX12_init 246 = .ok (.newarray .int, 2) := by decide +kernel
theorem dX12_init_248 : decode cX12_init 248 = .ok (.putfield 98, 3) := by decide +kernel
theorem dX12_init_251 : decode cX12_init 251 = .ok (.aload_n 0, 1) := by decide +kernel
theorem dX12_init_252 : decode cX12_init 252 = .ok (.bipush 40, 2) := by decide +kernel
theorem dX12_init_254 : decode cX12_init 254 = .ok (.newarray .boolean, 2) := by decide +kernel
theorem dX12_init_256 : decode cX12_init 256 = .ok (.putfield 101, 3) := by decide +kernel
theorem dX12_init_259 : decode cX12_init 259 = .ok (.aload_n 0, 1) := by decide +kernel
theorem dX12_init_260 : decode cX12_init 260 = .ok (.sipush 600, 3) := by decide +kernel
theorem dX12_init_263 : decode cX12_init 263 = .ok (.newarray .byte, 2) := by decide +kernel
theorem dX12_init_265 : decode cX12_init 265 = .ok (.putfield 104, 3) := by decide +kernel
theorem dX12_init_268 : decode cX12_init 268 = .ok (.aload_n 0, 1) := by decide +kernel
theorem dX12_init_269 : decode cX12_init 269 = .ok (.sipush 600, 3) := by decide +kernel
theorem dX12_init_272 : decode cX12_init 272 = .ok (.newarray .byte, 2) := by decide +kernel
theorem dX12_init_274 : decode cX12_init 274 = .ok (.putfield 108, 3) := by decide +kernel
theorem dX12_init_277 : decode cX12_init 277 = .ok (.aload_n 0, 1) := by decide +kernel
theorem dX12_init_278 : decode cX12_init 278 = .ok (.iconst (-1), 1) := by decide +kernel
theorem dX12_init_279 : decode cX12_init 279 = .ok (.putfield 111, 3) := by decide +kernel
theorem dX12_init_282 : decode cX12_init 282 = .ok (.aload_n 0, 1) := by decide +kernel
theorem dX12_init_283 : decode cX12_init 283 = .ok (.bipush 11, 2) := by decide +kernel
theorem dX12_init_285 : decode cX12_init 285 = .ok (.newarray .int, 2) := by decide +kernel
theorem dX12_init_287 : decode cX12_init 287 = .ok (.putfield 115, 3) := by decide +kernel
theorem dX12_init_290 : decode cX12_init 290 = .ok (.aload_n 0, 1) := by decide +kernel
theorem dX12_init_291 : decode cX12_init 291 = .ok (.bipush 11, 2) := by decide +kernel
theorem dX12_init_293 : decode cX12_init 293 = .ok (.newarray .int, 2) := by decide +kernel
theorem dX12_init_295 : decode cX12_init 295 = .ok (.putfield 118, 3) := by decide +kernel
theorem dX12_init_298 : decode cX12_init 298 = .ok (.aload_n 0, 1) := by decide +kernel
theorem dX12_init_299 : decode cX12_init 299 = .ok (.sipush 176, 3) := by decide +kernel
theorem dX12_init_302 : decode cX12_init 302 = .ok (.newarray .int, 2) := by decide +kernel
theorem dX12_init_304 : decode cX12_init 304 = .ok (.putfield 121, 3) := by decide +kernel
theorem dX12_init_307 : decode cX12_init 307 = .ok (.aload_n 0, 1) := by decide +kernel
theorem dX12_init_308 : decode cX12_init 308 = .ok (.sipush 176, 3) := by decide +kernel
theorem dX12_init_311 : decode cX12_init 311 = .ok (.newarray .int, 2) := by decide +kernel
theorem dX12_init_313 : decode cX12_init 313 = .ok (.putfield 124, 3) := by decide +kernel
theorem dX12_init_316 : decode cX12_init 316 = .ok (.aload_n 0, 1) := by decide +kernel
theorem dX12_init_317 : decode cX12_init 317 = .ok (.sipush 176, 3) := by decide +kernel
theorem dX12_init_320 : decode cX12_init 320 = .ok (.newarray .int, 2) := by decide +kernel
theorem dX12_init_322 : decode cX12_init 322 = .ok (.putfield 127, 3) := by decide +kernel
theorem dX12_init_325 : decode cX12_init 325 = .ok (.iconst 0, 1) := by decide +kernel
theorem dX12_init_326 : decode cX12_init 326 = .ok (.istore_n 1, 1) := by decide +kernel
theorem dX12_init_327 : decode cX12_init 327 = .ok (.iload_n 1, 1) := by decide +kernel
theorem dX12_init_328 : decode cX12_init 328 = .ok (.sipush 4380, 3) := by decide +kernel
theorem dX12_init_331 : decode cX12_init 331 = .ok (.if_icmp .ge 16, 3) := by decide +kernel
theorem dX12_init_334 : decode cX12_init 334 = .ok (.aload_n 0, 1) := by decide +kernel
theorem dX12_init_335 : decode cX12_init 335 = .ok (.getfield 80, 3) := by decide +kernel
theorem dX12_init_338 : decode cX12_init 338 = .ok (.iload_n 1, 1) := by decide +kernel
theorem dX12_init_339 : decode cX12_init 339 = .ok (.iconst (-1), 1) := by decide +kernel
theorem dX12_init_340 : decode cX12_init 340 = .ok (.iastore, 1) := by decide +kernel
theorem dX12_init_341 : decode cX12_init 341 = .ok (.iinc 1 1, 3) := by decide +kernel
theorem dX12_init_344 : decode cX12_init 344 = .ok (.goto (-17), 3) := by decide +kernel
theorem dX12_init_347 : decode cX12_init 347 = .ok (.return_, 1) := by decide +kernel
theorem dX12_isIn_0 : decode cX12_isIn 0 = .ok (.iload_n 0, 1) := by decide +kernel
theorem dX12_isIn_1 : decode cX12_isIn 1 = .ok (.iload_n 1, 1) := by decide +kernel
theorem dX12_isIn_2 : decode cX12_isIn 2 = .ok (.if_icmp .lt 12, 3) := by decide +kernel
theorem dX12_isIn_5 : decode cX12_isIn 5 = .ok (.iload_n 0, 1) := by decide +kernel
theorem dX12_isIn_6 : decode cX12_isIn 6 = .ok (.iload_n 2, 1) := by decide +kernel
theorem dX12_isIn_7 : decode cX12_isIn 7 = .ok (.if_icmp .gt 7, 3) := by decide +kernel
theorem dX12_isIn_10 : decode cX12_isIn 10 = .ok (.iconst 1, 1) := by decide +kernel
theorem dX12_isIn_11 : decode cX12_isIn 11 = .ok (.goto 4, 3) := by decide +kernel
theorem dX12_isIn_14 : decode cX12_isIn 14 = .ok (.iconst 0, 1) := by decide +kernel
theorem dX12_isIn_15 : decode cX12_isIn 15 = .ok (.ireturn, 1) := by decide +kernel
set_option maxRecDepth 20000 in
theorem ggX12_isDay_X12_isIn : GoodIn wsX12_isDay wsX12_isIn := goodIn_sub (List.forall_mem_cons.mpr ⟨List.mem_cons_of_mem _ (List.mem_of_getElem? (i := 3) rfl), fun _ h => absurd h List.not_mem_nil⟩) (by decide +kernel)
set_option maxRecDepth 20000 in
theorem gX12_isDay_X12_isIn : GoodIn wsX12_isDay (va_wsS RX12 130 yX12_isIn wsX12_isIn) := goodIn_app (goodIn_sub (List.forall_mem_cons.mpr ⟨List.mem_cons_of_mem _ (List.mem_of_getElem? (i := 0) rfl), List.forall_mem_cons.mpr ⟨List.mem_cons_of_mem _ (List.mem_of_getElem? (i := 1) rfl), List.forall_mem_cons.mpr ⟨List.mem_cons_of_mem _ (List.mem_of_getElem? (i := 2) rfl), fun _ h => absurd h List.not_mem_nil⟩⟩⟩) (by decide +kernel)) ggX12_isDay_X12_isIn
theorem dX12_isDay_0 : decode cX12_isDay 0 = .ok (.iload_n 0, 1) := by decide +kernel
theorem dX12_isDay_1 : decode cX12_isDay 1 = .ok (.iconst 0, 1) := by decide +kernel
theorem dX12_isDay_2 : decode cX12_isDay 2 = .ok (.sipush 1094, 3) := by decide +kernel
theorem dX12_isDay_5 : decode cX12_isDay 5 = .ok (.invokestatic 130, 3) := by decide +kernel
theorem dX12_isDay_8 : decode cX12_isDay 8 = .ok (.ireturn, 1) := by decide +kernel
set_option maxRecDepth 20000 in
theorem ggX12_isMonk_X12_isIn : GoodIn wsX12_isMonk wsX12_isIn := goodIn_sub (List.forall_mem_cons.mpr ⟨List.mem_cons_of_mem _ (List.mem_append_left _ (List.mem_of_getElem? (i := 4) rfl)), fun _ h => absurd h List.not_mem_nil⟩) (by decide +kernel)
set_option maxRecDepth 20000 in
theorem gX12_isMonk_X12_isIn : GoodIn wsX12_isMonk (va_wsS RX12 130 yX12_isIn wsX12_isIn) := goodIn_app (goodIn_sub (List.forall_mem_cons.mpr ⟨List.mem_cons_of_mem _ (List.mem_append_left _ (List.mem_of_getElem? (i := 1) rfl)), List.forall_mem_cons.mpr ⟨List.mem_cons_of_mem _ (List.mem_append_left _ (List.mem_of_getElem? (i := 2) rfl)), List.forall_mem_cons.mpr ⟨List.mem_cons_of_mem _ (List.mem_append_left _ (List.mem_of_getElem? (i := 3) rfl)), fun _ h => absurd h List.not_mem_nil⟩⟩⟩) (by decide +kernel)) ggX12_isMonk_X12_isIn
theorem dX12_isMonk_0 : decode cX12_isMonk 0 = .ok (.iload_n 1, 1) := by decide +kernel
theorem dX12_isMonk_1 : decode cX12_isMonk 1 = .ok (.iconst 0, 1) := by decide +kernel
theorem dX12_isMonk_2 : decode cX12_isMonk 2 = .ok (.aload_n 0, 1) := by decide +kernel
theorem dX12_isMonk_3 : decode cX12_isMonk 3 = .ok (.getfield 134, 3) := by decide +kernel
theorem dX12_isMonk_6 : decode cX12_isMonk 6 = .ok (.iconst 1, 1) := by decide +kernel
theorem dX12_isMonk_7 : decode cX12_isMonk 7 = .ok (.isub, 1) := by decide +kernel
theorem dX12_isMonk_8 : decode cX12_isMonk 8 = .ok (.invokestatic 130, 3) := by decide +kernel
theorem dX12_isMonk_11 : decode cX12_isMonk 11 = .ok (.ireturn, 1) := by decide +kernel
set_option maxRecDepth 20000 in
theorem ggX12_isGift_X12_isIn : GoodIn wsX12_isGift wsX12_isIn := goodIn_sub (List.forall_mem_cons.mpr ⟨List.mem_cons_of_mem _ (List.mem_append_left _ (List.mem_of_getElem? (i := 4) rfl)), fun _ h => absurd h List.not_mem_nil⟩) (by decide +kernel)
set_option maxRecDepth 20000 in
theorem gX12_isGift_X12_isIn : GoodIn wsX12_isGift (va_wsS RX12 130 yX12_isIn wsX12_isIn) := goodIn_app (goodIn_sub (List.forall_mem_cons.mpr ⟨List.mem_cons_of_mem _ (List.mem_append_left _ (List.mem_of_getElem? (i := 1) rfl)), List.forall_mem_cons.mpr ⟨List.mem_cons_of_mem _ (List.mem_append_left _ (List.mem_of_getElem? (i := 2) rfl)), List.forall_mem_cons.mpr ⟨List.mem_cons_of_mem _ (List.mem_append_left _ (List.mem_of_getElem? (i := 3) rfl)), fun _ h => absurd h List.not_mem_nil⟩⟩⟩) (by decide +kernel)) ggX12_isGift_X12_isIn
theorem dX12_isGift_0 : decode cX12_isGift 0 = .ok (.iload_n 1, 1) := by decide +kernel
theorem dX12_isGift_1 : decode cX12_isGift 1 = .ok (.iconst 0, 1) := by decide +kernel
theorem dX12_isGift_2 : decode cX12_isGift 2 = .ok (.aload_n 0, 1) := by decide +kernel
theorem dX12_isGift_3 : decode cX12_isGift 3 = .ok (.getfield 137, 3) := by decide +kernel
theorem dX12_isGift_6 : decode cX12_isGift 6 = .ok (.iconst 1, 1) := by decide +kernel
theorem dX12_isGift_7 : decode cX12_isGift 7 = .ok (.isub, 1) := by decide +kernel
theorem dX12_isGift_8 : decode cX12_isGift 8 = .ok (.invokestatic 130, 3) := by decide +kernel
theorem dX12_isGift_11 : decode cX12_isGift 11 = .ok (.ireturn, 1) := by decide +kernel
set_option maxRecDepth 20000 in
theorem ggX12_monk_X12_isIn : GoodIn wsX12_monk wsX12_isIn := goodIn_sub (List.forall_mem_cons.mpr ⟨List.mem_cons_of_mem _ (List.mem_append_left _ (List.mem_of_getElem? (i := 8) rfl)), fun _ h => absurd h List.not_mem_nil⟩) (by decide +kernel)
set_option maxRecDepth 20000 in
theorem gX12_monk_X12_isIn : GoodIn wsX12_monk (va_wsS RX12 130 yX12_isIn wsX12_isIn) := goodIn_app (goodIn_sub (List.forall_mem_cons.mpr ⟨List.mem_cons_of_mem _ (List.mem_append_left _ (List.mem_of_getElem? (i := 5) rfl)), List.forall_mem_cons.mpr ⟨List.mem_cons_of_mem _ (List.mem_append_left _ (List.mem_of_getElem? (i := 6) rfl)), List.forall_mem_cons.mpr ⟨List.mem_cons_of_mem _ (List.mem_append_left _ (List.mem_of_getElem? (i := 7) rfl)), fun _ h => absurd h List.not_mem_nil⟩⟩⟩) (by decide +kernel)) ggX12_monk_X12_isIn
theorem dX12_monk_0 : decode cX12_monk 0 = .ok (.iload_n 2, 1) := by decide +kernel
theorem dX12_monk_1 : decode cX12_monk 1 = .ok (.iconst 0, 1) := by decide +kernel
theorem dX12_monk_2 : decode cX12_monk 2 = .ok (.bipush 15, 2) := by decide +kernel
theorem dX12_monk_4 : decode cX12_monk 4 = .ok (.invokestatic 130, 3) := by decide +kernel
theorem dX12_monk_7 : decode cX12_monk 7 = .ok (.ifCond .eq 12, 3) := by decide +kernel
theorem dX12_monk_10 : decode cX12_monk 10 = .ok (.aload_n 0, 1) := by decide +kernel
theorem dX12_monk_11 : decode cX12_monk 11 = .ok (.getfield 134, 3) := by decide +kernel
theorem dX12_monk_14 : decode cX12_monk 14 = .ok (.bipush 24, 2) := by decide +kernel
theorem dX12_monk_16 : decode cX12_monk 16 = .ok (.if_icmp .ne 5, 3) := by decide +kernel
theorem dX12_monk_19 : decode cX12_monk 19 = .ok (.iconst (-1), 1) := by decide +kernel
theorem dX12_monk_20 : decode cX12_monk 20 = .ok (.ireturn, 1) := by decide +kernel
theorem dX12_monk_21 : decode cX12_monk 21 = .ok (.aload_n 0, 1) := by decide +kernel
theorem dX12_monk_22 : decode cX12_monk 22 = .ok (.getfield 7, 3) := by decide +kernel
theorem dX12_monk_25 : decode cX12_monk 25 = .ok (.aload_n 0, 1) := by decide +kernel
theorem dX12_monk_26 : decode cX12_monk 26 = .ok (.getfield 134, 3) := by decide +kernel
theorem dX12_monk_29 : decode cX12_monk 29 = .ok (.iload_n 1, 1) := by decide +kernel
theorem dX12_monk_30 : decode cX12_monk 30 = .ok (.bastore, 1) := by decide +kernel
theorem dX12_monk_31 : decode cX12_monk 31 = .ok (.aload_n 0, 1) := by decide +kernel
theorem dX12_monk_32 : decode cX12_monk 32 = .ok (.getfield 13, 3) := by decide +kernel
theorem dX12_monk_35 : decode cX12_monk 35 = .ok (.aload_n 0, 1) := by decide +kernel
theorem dX12_monk_36 : decode cX12_monk 36 = .ok (.getfield 134, 3) := by decide +kernel
theorem dX12_monk_39 : decode cX12_monk 39 = .ok (.iload_n 2, 1) := by decide +kernel
theorem dX12_monk_40 : decode cX12_monk 40 = .ok (.iastore, 1) := by decide +kernel
theorem dX12_monk_41 : decode cX12_monk 41 = .ok (.aload_n 0, 1) := by decide +kernel
theorem dX12_monk_42 : decode cX12_monk 42 = .ok (.getfield 17, 3) := by decide +kernel
theorem dX12_monk_45 : decode cX12_monk 45 = .ok (.aload_n 0, 1) := by decide +kernel
theorem dX12_monk_46 : decode cX12_monk 46 = .ok (.getfield 134, 3) := by decide +kernel
theorem dX12_monk_49 : decode cX12_monk 49 = .ok (.aload_n 0, 1) := by decide +kernel
theorem dX12_monk_50 : decode cX12_monk 50 = .ok (.getfield 140, 3) := by decide +kernel
theorem dX12_monk_53 : decode cX12_monk 53 = .ok (.iastore, 1) := by decide +kernel
theorem dX12_monk_54 : decode cX12_monk 54 = .ok (.aload_n 0, 1) := by decide +kernel
theorem dX12_monk_55 : decode cX12_monk 55 = .ok (.dup, 1) := by decide +kernel
theorem dX12_monk_56 : decode cX12_monk 56 = .ok (.getfield 134, 3) := by decide +kernel
theorem dX12_monk_59 : decode cX12_monk 59 = .ok (.iconst 1, 1) := by decide +kernel
theorem dX12_monk_60 : decode cX12_monk 60 = .ok (.iadd, 1) := by decide +kernel
theorem dX12_monk_61 : decode cX12_monk 61 = .ok (.putfield 134, 3) := by decide +kernel
theorem dX12_monk_64 : decode cX12_monk 64 = .ok (.aload_n 0, 1) := by decide +kernel
theorem dX12_monk_65 : decode cX12_monk 65 = .ok (.getfield 134, 3) := by decide +kernel
theorem dX12_monk_68 : decode cX12_monk 68 = .ok (.iconst 1, 1) := by decide +kernel
theorem dX12_monk_69 : decode cX12_monk 69 = .ok (.isub, 1) := by decide +kernel
theorem dX12_monk_70 : decode cX12_monk 70 = .ok (.ireturn, 1) := by decide +kernel
set_option maxRecDepth 20000 in
theorem ggX12_away_X12_isMonk : GoodIn wsX12_away wsX12_isMonk := goodIn_sub (List.forall_mem_cons.mpr ⟨List.mem_cons_of_mem _ (List.mem_append_left _ (List.mem_of_getElem? (i := 9) rfl)), List.forall_mem_append.mpr ⟨List.forall_mem_cons.mpr ⟨List.mem_cons_of_mem _ (List.mem_append_left _ (List.mem_of_getElem? (i := 10) rfl)), List.forall_mem_cons.mpr ⟨List.mem_cons_of_mem _ (List.mem_append_left _ (List.mem_of_getElem? (i := 11) rfl)), List.forall_mem_cons.mpr ⟨List.mem_cons_of_mem _ (List.mem_append_left _ (List.mem_of_getElem? (i := 12) rfl)), List.forall_mem_cons.mpr ⟨List.mem_cons_of_mem _ (List.mem_append_left _ (List.mem_of_getElem? (i := 8) rfl)), List.forall_mem_cons.mpr ⟨List.mem_cons_of_mem _ (List.mem_append_left _ (List.mem_of_getElem? (i := 13) rfl)), fun _ h => absurd h List.not_mem_nil⟩⟩⟩⟩⟩, tl_X12_away_X12⟩⟩) (by decide +kernel)
set_option maxRecDepth 20000 in
theorem gX12_away_X12_isMonk : GoodIn wsX12_away (wsV RX12 143 RX12 yX12_isMonk wsX12_isMonk) := goodIn_app (goodIn_sub (List.forall_mem_cons.mpr ⟨List.mem_cons_of_mem _ (List.mem_append_left _ (List.mem_of_getElem? (i := 5) rfl)), List.forall_mem_cons.mpr ⟨List.mem_cons_of_mem _ (List.mem_append_left _ (List.mem_of_getElem? (i := 6) rfl)), List.forall_mem_cons.mpr ⟨List.mem_cons_of_mem _ (List.mem_append_left _ (List.mem_of_getElem? (i := 7) rfl)), List.forall_mem_cons.mpr ⟨List.mem_cons_of_mem _ (List.mem_append_left _ (List.mem_of_getElem? (i := 8) rfl)), fun _ h => absurd h List.not_mem_nil⟩⟩⟩⟩) (by decide +kernel)) ggX12_away_X12_isMonk
set_option maxRecDepth 20000 in
theorem ggX12_away_X12_isDay : GoodIn wsX12_away wsX12_isDay := goodIn_sub (List.forall_mem_cons.mpr ⟨List.mem_cons_of_mem _ (List.mem_append_left _ (List.mem_of_getElem? (i := 16) rfl)), List.forall_mem_cons.mpr ⟨List.mem_cons_of_mem _ (List.mem_append_left _ (List.mem_of_getElem? (i := 11) rfl)), List.forall_mem_cons.mpr ⟨List.mem_cons_of_mem _ (List.mem_append_left _ (List.mem_of_getElem? (i := 12) rfl)), List.forall_mem_cons.mpr ⟨List.mem_cons_of_mem _ (List.mem_append_left _ (List.mem_of_getElem? (i := 8) rfl)), List.forall_mem_cons.mpr ⟨List.mem_cons_of_mem _ (List.mem_append_left _ (List.mem_of_getElem? (i := 13) rfl)), fun _ h => absurd h List.not_mem_nil⟩⟩⟩⟩⟩) (by decide +kernel)
set_option maxRecDepth 20000 in
theorem gX12_away_X12_isDay : GoodIn wsX12_away (va_wsS RX12 147 yX12_isDay wsX12_isDay) := goodIn_app (goodIn_sub (List.forall_mem_cons.mpr ⟨List.mem_cons_of_mem _ (List.mem_append_left _ (List.mem_of_getElem? (i := 14) rfl)), List.forall_mem_cons.mpr ⟨List.mem_cons_of_mem _ (List.mem_append_left _ (List.mem_of_getElem? (i := 15) rfl)), List.forall_mem_cons.mpr ⟨List.mem_cons_of_mem _ (List.mem_append_left _ (List.mem_of_getElem? (i := 8) rfl)), fun _ h => absurd h List.not_mem_nil⟩⟩⟩) (by decide +kernel)) ggX12_away_X12_isDay
theorem dX12_away_0 : decode cX12_away 0 = .ok (.aload_n 0, 1) := by decide +kernel
theorem dX12_away_1 : decode cX12_away 1 = .ok (.iload_n 1, 1) := by decide +kernel
theorem dX12_away_2 : decode cX12_away 2 = .ok (.invokevirtual 143, 3) := by decide +kernel
theorem dX12_away_5 : decode cX12_away 5 = .ok (.ifCond .eq 32, 3) := by decide +kernel
theorem dX12_away_8 : decode cX12_away 8 = .ok (.iload_n 2, 1) := by decide +kernel
theorem dX12_away_9 : decode cX12_away 9 = .ok (.aload_n 0, 1) := by decide +kernel
theorem dX12_away_10 : decode cX12_away 10 = .ok (.getfield 140, 3) := by decide +kernel
theorem dX12_away_13 : decode cX12_away 13 = .ok (.if_icmp .lt 24, 3) := by decide +kernel
theorem dX12_away_16 : decode cX12_away 16 = .ok (.iload_n 2, 1) := by decide +kernel
theorem dX12_away_17 : decode cX12_away 17 = .ok (.iload_n 3, 1) := by decide +kernel
theorem dX12_away_18 : decode cX12_away 18 = .ok (.if_icmp .gt 19, 3) := by decide +kernel
theorem dX12_away_21 : decode cX12_away 21 = .ok (.iload_n 3, 1) := by decide +kernel
theorem dX12_away_22 : decode cX12_away 22 = .ok (.invokestatic 147, 3) := by decide +kernel
theorem dX12_away_25 : decode cX12_away 25 = .ok (.ifCond .eq 12, 3) := by decide +kernel
theorem dX12_away_28 : decode cX12_away 28 = .ok (.aload_n 0, 1) := by decide +kernel
theorem dX12_away_29 : decode cX12_away 29 = .ok (.getfield 150, 3) := by decide +kernel
theorem dX12_away_32 : decode cX12_away 32 = .ok (.bipush 60, 2) := by decide +kernel
theorem dX12_away_34 : decode cX12_away 34 = .ok (.if_icmp .ne 5, 3) := by decide +kernel
theorem dX12_away_37 : decode cX12_away 37 = .ok (.iconst (-1), 1) := by decide +kernel
theorem dX12_away_38 : decode cX12_away 38 = .ok (.ireturn, 1) := by decide +kernel
theorem dX12_away_39 : decode cX12_away 39 = .ok (.aload_n 0, 1) := by decide +kernel
theorem dX12_away_40 : decode cX12_away 40 = .ok (.getfield 23, 3) := by decide +kernel
theorem dX12_away_43 : decode cX12_away 43 = .ok (.aload_n 0, 1) := by decide +kernel
theorem dX12_away_44 : decode cX12_away 44 = .ok (.getfield 150, 3) := by decide +kernel
theorem dX12_away_47 : decode cX12_away 47 = .ok (.iload_n 1, 1) := by decide +kernel
theorem dX12_away_48 : decode cX12_away 48 = .ok (.iastore, 1) := by decide +kernel
theorem dX12_away_49 : decode cX12_away 49 = .ok (.aload_n 0, 1) := by decide +kernel
theorem dX12_away_50 : decode cX12_away 50 = .ok (.getfield 26, 3) := by decide +kernel
theorem dX12_away_53 : decode cX12_away 53 = .ok (.aload_n 0, 1) := by decide +kernel
theorem dX12_away_54 : decode cX12_away 54 = .ok (.getfield 150, 3) := by decide +kernel
theorem dX12_away_57 : decode cX12_away 57 = .ok (.iload_n 2, 1) := by decide +kernel
theorem dX12_away_58 : decode cX12_away 58 = .ok (.iastore, 1) := by decide +kernel
theorem dX12_away_59 : decode cX12_away 59 = .ok (.aload_n 0, 1) := by decide +kernel
theorem dX12_away_60 : decode cX12_away 60 = .ok (.getfield 29, 3) := by decide +kernel
theorem dX12_away_63 : decode cX12_away 63 = .ok (.aload_n 0, 1) := by decide +kernel
theorem dX12_away_64 : decode cX12_away 64 = .ok (.getfield 150, 3) := by decide +kernel
theorem dX12_away_67 : decode cX12_away 67 = .ok (.iload_n 3, 1) := by decide +kernel
theorem dX12_away_68 : decode cX12_away 68 = .ok (.iastore, 1) := by decide +kernel
theorem dX12_away_69 : decode cX12_away 69 = .ok (.aload_n 0, 1) := by decide +kernel
theorem dX12_away_70 : decode cX12_away 70 = .ok (.dup, 1) := by decide +kernel
theorem dX12_away_71 : decode cX12_away 71 = .ok (.getfield 150, 3) := by decide +kernel
theorem dX12_away_74 : decode cX12_away 74 = .ok (.iconst 1, 1) := by decide +kernel
theorem dX12_away_75 : decode cX12_away 75 = .ok (.iadd, 1) := by decide +kernel
theorem dX12_away_76 : decode cX12_away 76 = .ok (.putfield 150, 3) := by decide +kernel
theorem dX12_away_79 : decode cX12_away 79 = .ok (.aload_n 0, 1) := by decide +kernel
theorem dX12_away_80 : decode cX12_away 80 = .ok (.getfield 150, 3) := by decide +kernel
theorem dX12_away_83 : decode cX12_away 83 = .ok (.ireturn, 1) := by decide +kernel
set_option maxRecDepth 20000 in
theorem ggX12_isAble_X12_isIn : GoodIn wsX12_isAble wsX12_isIn := goodIn_sub (List.forall_mem_cons.mpr ⟨List.mem_cons_of_mem _ (List.mem_append_left _ (List.mem_of_getElem? (i := 8) rfl)), fun _ h => absurd h List.not_mem_nil⟩) (by decide +kernel)
set_option maxRecDepth 20000 in
theorem gX12_isAble_X12_isIn : GoodIn wsX12_isAble (va_wsS RX12 130 yX12_isIn wsX12_isIn) := goodIn_app (goodIn_sub (List.forall_mem_cons.mpr ⟨List.mem_cons_of_mem _ (List.mem_append_left _ (List.mem_of_getElem? (i := 5) rfl)), List.forall_mem_cons.mpr ⟨List.mem_cons_of_mem _ (List.mem_append_left _ (List.mem_of_getElem? (i := 6) rfl)), List.forall_mem_cons.mpr ⟨List.mem_cons_of_mem _ (List.mem_append_left _ (List.mem_of_getElem? (i := 7) rfl)), fun _ h => absurd h List.not_mem_nil⟩⟩⟩) (by decide +kernel)) ggX12_isAble_X12_isIn
theorem dX12_isAble_0 : decode cX12_isAble 0 = .ok (.aload_n 0, 1) := by decide +kernel
theorem dX12_isAble_1 : decode cX12_isAble 1 = .ok (.getfield 17, 3) := by decide +kernel
theorem dX12_isAble_4 : decode cX12_isAble 4 = .ok (.iload_n 1, 1) := by decide +kernel
theorem dX12_isAble_5 : decode cX12_isAble 5 = .ok (.iaload, 1) := by decide +kernel
theorem dX12_isAble_6 : decode cX12_isAble 6 = .ok (.iload_n 2, 1) := by decide +kernel
theorem dX12_isAble_7 : decode cX12_isAble 7 = .ok (.if_icmp .gt 7, 3) := by decide +kernel
theorem dX12_isAble_10 : decode cX12_isAble 10 = .ok (.iconst 1, 1) := by decide +kernel
theorem dX12_isAble_11 : decode cX12_isAble 11 = .ok (.goto 4, 3) := by decide +kernel
theorem dX12_isAble_14 : decode cX12_isAble 14 = .ok (.iconst 0, 1) := by decide +kernel
theorem dX12_isAble_15 : decode cX12_isAble 15 = .ok (.istore_n 3, 1) := by decide +kernel
theorem dX12_isAble_16 : decode cX12_isAble 16 = .ok (.iconst 0, 1) := by decide +kernel
theorem dX12_isAble_17 : decode cX12_isAble 17 = .ok (.istore 4, 2) := by decide +kernel
theorem dX12_isAble_19 : decode cX12_isAble 19 = .ok (.iload 4, 2) := by decide +kernel
theorem dX12_isAble_21 : decode cX12_isAble 21 = .ok (.aload_n 0, 1) := by decide +kernel
theorem dX12_isAble_22 : decode cX12_isAble 22 = .ok (.getfield 150, 3) := by decide +kernel
theorem dX12_isAble_25 : decode cX12_isAble 25 = .ok (.if_icmp .ge 51, 3) := by decide +kernel
theorem dX12_isAble_28 : decode cX12_isAble 28 = .ok (.iload_n 3, 1) := by decide +kernel
theorem dX12_isAble_29 : decode cX12_isAble 29 = .ok (.ifCond .eq 39, 3) := by decide +kernel
theorem dX12_isAble_32 : decode cX12_isAble 32 = .ok (.aload_n 0, 1) := by decide +kernel
theorem dX12_isAble_33 : decode cX12_isAble 33 = .ok (.getfield 23, 3) := by decide +kernel
theorem dX12_isAble_36 : decode cX12_isAble 36 = .ok (.iload 4, 2) := by decide +kernel
theorem dX12_isAble_38 : decode cX12_isAble 38 = .ok (.iaload, 1) := by decide +kernel
theorem dX12_isAble_39 : decode cX12_isAble 39 = .ok (.iload_n 1, 1) := by decide +kernel
theorem dX12_isAble_40 : decode cX12_isAble 40 = .ok (.if_icmp .ne 24, 3) := by decide +kernel
theorem dX12_isAble_43 : decode cX12_isAble 43 = .ok (.iload_n 2, 1) := by decide +kernel
theorem dX12_isAble_44 : decode cX12_isAble 44 = .ok (.aload_n 0, 1) := by decide +kernel
theorem dX12_isAble_45 : decode cX12_isAble 45 = .ok (.getfield 26, 3) := by decide +kernel
theorem dX12_isAble_48 : decode cX12_isAble 48 = .ok (.iload 4, 2) := by decide +kernel
theorem dX12_isAble_50 : decode cX12_isAble 50 = .ok (.iaload, 1) := by decide +kernel
theorem dX12_isAble_51 : decode cX12_isAble 51 = .ok (.aload_n 0, 1) := by decide +kernel
theorem dX12_isAble_52 : decode cX12_isAble 52 = .ok (.getfield 29, 3) := by decide +kernel
theorem dX12_isAble_55 : decode cX12_isAble 55 = .ok (.iload 4, 2) := by decide +kernel
theorem dX12_isAble_57 : decode cX12_isAble 57 = .ok (.iaload, 1) := by decide +kernel
theorem dX12_isAble_58 : decode cX12_isAble 58 = .ok (.invokestatic 130, 3) := by decide +kernel
theorem dX12_isAble_61 : decode cX12_isAble 61 = .ok (.ifCond .ne 7, 3) := by decide +kernel
theorem dX12_isAble_64 : decode cX12_isAble 64 = .ok (.iconst 1, 1) := by decide +kernel
theorem dX12_isAble_65 : decode cX12_isAble 65 = .ok (.goto 4, 3) := by decide +kernel
theorem dX12_isAble_68 : decode cX12_isAble 68 = .ok (.iconst 0, 1) := by decide +kernel
theorem dX12_isAble_69 : decode cX12_isAble 69 = .ok (.istore_n 3, 1) := by decide +kernel
theorem dX12_isAble_70 : decode cX12_isAble 70 = .ok (.iinc 4 1, 3) := by decide +kernel
theorem dX12_isAble_73 : decode cX12_isAble 73 = .ok (.goto (-54), 3) := by decide +kernel
theorem dX12_isAble_76 : decode cX12_isAble 76 = .ok (.iload_n 3, 1) := by decide +kernel
theorem dX12_isAble_77 : decode cX12_isAble 77 = .ok (.ireturn, 1) := by decide +kernel
set_option maxRecDepth 20000 in
theorem ggX12_feast_X12_isIn : GoodIn wsX12_feast wsX12_isIn := goodIn_sub (List.forall_mem_cons.mpr ⟨List.mem_cons_of_mem _ (List.mem_append_left _ (List.mem_of_getElem? (i := 6) rfl)), fun _ h => absurd h List.not_mem_nil⟩) (by decide +kernel)
set_option maxRecDepth 20000 in
theorem gX12_feast_X12_isIn : GoodIn wsX12_feast (va_wsS RX12 130 yX12_isIn wsX12_isIn) := goodIn_app (goodIn_sub (List.forall_mem_cons.mpr ⟨List.mem_cons_of_mem _ (List.mem_append_left _ (List.mem_of_getElem? (i := 3) rfl)), List.forall_mem_cons.mpr ⟨List.mem_cons_of_mem _ (List.mem_append_left _ (List.mem_of_getElem? (i := 4) rfl)), List.forall_mem_cons.mpr ⟨List.mem_cons_of_mem _ (List.mem_append_left _ (List.mem_of_getElem? (i := 5) rfl)), fun _ h => absurd h List.not_mem_nil⟩⟩⟩) (by decide +kernel)) ggX12_feast_X12_isIn
theorem dX12_feast_0 : decode cX12_feast 0 = .ok (.iload_n 1, 1) := by decide +kernel
theorem dX12_feast_1 : decode cX12_feast 1 = .ok (.iconst 0, 1) := by decide +kernel
theorem dX12_feast_2 : decode cX12_feast 2 = .ok (.sipush 364, 3) := by decide +kernel
theorem dX12_feast_5 : decode cX12_feast 5 = .ok (.invokestatic 130, 3) := by decide +kernel
theorem dX12_feast_8 : decode cX12_feast 8 = .ok (.ifCond .eq 21, 3) := by decide +kernel
theorem dX12_feast_11 : decode cX12_feast 11 = .ok (.iload_n 2, 1) := by decide +kernel
theorem dX12_feast_12 : decode cX12_feast 12 = .ok (.iconst 1, 1) := by decide +kernel
theorem dX12_feast_13 : decode cX12_feast 13 = .ok (.iconst 4, 1) := by decide +kernel
theorem dX12_feast_14 : decode cX12_feast 14 = .ok (.invokestatic 130, 3) := by decide +kernel
theorem dX12_feast_17 : decode cX12_feast 17 = .ok (.ifCond .eq 12, 3) := by decide +kernel
theorem dX12_feast_20 : decode cX12_feast 20 = .ok (.aload_n 0, 1) := by decide +kernel
theorem dX12_feast_21 : decode cX12_feast 21 = .ok (.getfield 153, 3) := by decide +kernel
theorem dX12_feast_24 : decode cX12_feast 24 = .ok (.bipush 40, 2) := by decide +kernel
theorem dX12_feast_26 : decode cX12_feast 26 = .ok (.if_icmp .ne 5, 3) := by decide +kernel
theorem dX12_feast_29 : decode cX12_feast 29 = .ok (.iconst (-1), 1) := by decide +kernel
theorem dX12_feast_30 : decode cX12_feast 30 = .ok (.ireturn, 1) := by decide +kernel
theorem dX12_feast_31 : decode cX12_feast 31 = .ok (.aload_n 0, 1) := by decide +kernel
theorem dX12_feast_32 : decode cX12_feast 32 = .ok (.getfield 32, 3) := by decide +kernel
theorem dX12_feast_35 : decode cX12_feast 35 = .ok (.aload_n 0, 1) := by decide +kernel
theorem dX12_feast_36 : decode cX12_feast 36 = .ok (.getfield 153, 3) := by decide +kernel
theorem dX12_feast_39 : decode cX12_feast 39 = .ok (.iload_n 1, 1) := by decide +kernel
theorem dX12_feast_40 : decode cX12_feast 40 = .ok (.iastore, 1) := by decide +kernel
theorem dX12_feast_41 : decode cX12_feast 41 = .ok (.aload_n 0, 1) := by decide +kernel
theorem dX12_feast_42 : decode cX12_feast 42 = .ok (.getfield 35, 3) := by decide +kernel
theorem dX12_feast_45 : decode cX12_feast 45 = .ok (.aload_n 0, 1) := by decide +kernel
theorem dX12_feast_46 : decode cX12_feast 46 = .ok (.getfield 153, 3) := by decide +kernel
theorem dX12_feast_49 : decode cX12_feast 49 = .ok (.iload_n 2, 1) := by decide +kernel
theorem dX12_feast_50 : decode cX12_feast 50 = .ok (.iastore, 1) := by decide +kernel
theorem dX12_feast_51 : decode cX12_feast 51 = .ok (.aload_n 0, 1) := by decide +kernel
theorem dX12_feast_52 : decode cX12_feast 52 = .ok (.dup, 1) := by decide +kernel
theorem dX12_feast_53 : decode cX12_feast 53 = .ok (.getfield 153, 3) := by decide +kernel
theorem dX12_feast_56 : decode cX12_feast 56 = .ok (.iconst 1, 1) := by decide +kernel
theorem dX12_feast_57 : decode cX12_feast 57 = .ok (.iadd, 1) := by decide +kernel
theorem dX12_feast_58 : decode cX12_feast 58 = .ok (.putfield 153, 3) := by decide +kernel
theorem dX12_feast_61 : decode cX12_feast 61 = .ok (.aload_n 0, 1) := by decide +kernel
theorem dX12_feast_62 : decode cX12_feast 62 = .ok (.getfield 153, 3) := by decide +kernel
theorem dX12_feast_65 : decode cX12_feast 65 = .ok (.iconst 1, 1) := by decide +kernel
theorem dX12_feast_66 : decode cX12_feast 66 = .ok (.isub, 1) := by decide +kernel
theorem dX12_feast_67 : decode cX12_feast 67 = .ok (.ireturn, 1) := by decide +kernel
theorem dX12_holdsAll_0 : decode cX12_holdsAll 0 = .ok (.iconst 0, 1) := by decide +kernel
theorem dX12_holdsAll_1 : decode cX12_holdsAll 1 = .ok (.istore_n 1, 1) := by decide +kernel
theorem dX12_holdsAll_2 : decode cX12_holdsAll 2 = .ok (.iload_n 1, 1) := by decide +kernel
theorem dX12_holdsAll_3 : decode cX12_holdsAll 3 = .ok (.aload_n 0, 1) := by decide +kernel
theorem dX12_holdsAll_4 : decode cX12_holdsAll 4 = .ok (.getfield 153, 3) := by decide +kernel
theorem dX12_holdsAll_7 : decode cX12_holdsAll 7 = .ok (.if_icmp .ge 16, 3) := by decide +kernel
theorem dX12_holdsAll_10 : decode cX12_holdsAll 10 = .ok (.aload_n 0, 1) := by decide +kernel
theorem dX12_holdsAll_11 : decode cX12_holdsAll 11 = .ok (.getfield 101, 3) := by decide +kernel
theorem dX12_holdsAll_14 : decode cX12_holdsAll 14 = .ok (.iload_n 1, 1) := by decide +kernel
theorem dX12_holdsAll_15 : decode cX12_holdsAll 15 = .ok (.iconst 0, 1) := by decide +kernel
theorem dX12_holdsAll_16 : decode cX12_holdsAll 16 = .ok (.bastore, 1) := by decide +kernel
theorem dX12_holdsAll_17 : decode cX12_holdsAll 17 = .ok (.iinc 1 1, 3) := by decide +kernel
theorem dX12_holdsAll_20 : decode cX12_holdsAll 20 = .ok (.goto (-18), 3) := by decide +kernel
theorem dX12_holdsAll_23 : decode cX12_holdsAll 23 = .ok (.iconst 0, 1) := by decide +kernel
theorem dX12_holdsAll_24 : decode cX12_holdsAll 24 = .ok (.istore_n 1, 1) := by decide +kernel
theorem dX12_holdsAll_25 : decode cX12_holdsAll 25 = .ok (.iload_n 1, 1) := by decide +kernel
theorem dX12_holdsAll_26 : decode cX12_holdsAll 26 = .ok (.sipush 365, 3) := by decide +kernel
theorem dX12_holdsAll_29 : decode cX12_holdsAll 29 = .ok (.if_icmp .ge 198, 3) := by decide +kernel
theorem dX12_holdsAll_32 : decode cX12_holdsAll 32 = .ok (.iconst (-1), 1) := by decide +kernel
theorem dX12_holdsAll_33 : decode cX12_holdsAll 33 = .ok (.istore_n 2, 1) := by decide +kernel
theorem dX12_holdsAll_34 : decode cX12_holdsAll 34 = .ok (.iconst 0, 1) := by decide +kernel
theorem dX12_holdsAll_35 : decode cX12_holdsAll 35 = .ok (.istore_n 3, 1) := by decide +kernel
theorem dX12_holdsAll_36 : decode cX12_holdsAll 36 = .ok (.iload_n 3, 1) := by decide +kernel
theorem dX12_holdsAll_37 : decode cX12_holdsAll 37 = .ok (.aload_n 0, 1) := by decide +kernel
theorem dX12_holdsAll_38 : decode cX12_holdsAll 38 = .ok (.getfield 153, 3) := by decide +kernel
theorem dX12_holdsAll_41 : decode cX12_holdsAll 41 = .ok (.if_icmp .ge 112, 3) := by decide +kernel
theorem dX12_holdsAll_44 : decode cX12_holdsAll 44 = .ok (.aload_n 0, 1) := by decide +kernel
theorem dX12_holdsAll_45 : decode cX12_holdsAll 45 = .ok (.getfield 101, 3) := by decide +kernel
theorem dX12_holdsAll_48 : decode cX12_holdsAll 48 = .ok (.iload_n 3, 1) := by decide +kernel
theorem dX12_holdsAll_49 : decode cX12_holdsAll 49 = .ok (.baload, 1) := by decide +kernel
theorem dX12_holdsAll_50 : decode cX12_holdsAll 50 = .ok (.ifCond .ne 16, 3) := by decide +kernel
theorem dX12_holdsAll_53 : decode cX12_holdsAll 53 = .ok (.aload_n 0, 1) := by decide +kernel
theorem dX12_holdsAll_54 : decode cX12_holdsAll 54 = .ok (.getfield 32, 3) := by decide +kernel
theorem dX12_holdsAll_57 : decode cX12_holdsAll 57 = .ok (.iload_n 3, 1) := by decide +kernel
theorem dX12_holdsAll_58 : decode cX12_holdsAll 58 = .ok (.iaload, 1) := by decide +kernel
theorem dX12_holdsAll_59 : decode cX12_holdsAll 59 = .ok (.iload_n 1, 1) := by decide +kernel
theorem dX12_holdsAll_60 : decode cX12_holdsAll 60 = .ok (.if_icmp .eq 6, 3) := by decide +kernel
theorem dX12_holdsAll_63 : decode cX12_holdsAll 63 = .ok (.goto 84, 3) := by decide +kernel
theorem dX12_holdsAll_66 : decode cX12_holdsAll 66 = .ok (.iload_n 2, 1) := by decide +kernel
theorem dX12_holdsAll_67 : decode cX12_holdsAll 67 = .ok (.iconst (-1), 1) := by decide +kernel
theorem dX12_holdsAll_68 : decode cX12_holdsAll 68 = .ok (.if_icmp .eq 18, 3) := by decide +kernel
theorem dX12_holdsAll_71 : decode cX12_holdsAll 71 = .ok (.aload_n 0, 1) := by decide +kernel
theorem dX12_holdsAll_72 : decode cX12_holdsAll 72 = .ok (.getfield 35, 3) := by decide +kernel
theorem dX12_holdsAll_75 : decode cX12_holdsAll 75 = .ok (.iload_n 3, 1) := by decide +kernel
theorem dX12_holdsAll_76 : decode cX12_holdsAll 76 = .ok (.iaload, 1) := by decide +kernel
theorem dX12_holdsAll_77 : decode cX12_holdsAll 77 = .ok (.aload_n 0, 1) := by decide +kernel
theorem dX12_holdsAll_78 : decode cX12_holdsAll 78 = .ok (.getfield 35, 3) := by decide +kernel
theorem dX12_holdsAll_81 : decode cX12_holdsAll 81 = .ok (.iload_n 2, 1) := by decide +kernel
theorem dX12_holdsAll_82 : decode cX12_holdsAll 82 = .ok (.iaload, 1) := by decide +kernel
theorem dX12_holdsAll_83 : decode cX12_holdsAll 83 = .ok (.if_icmp .le 7, 3) := by decide +kernel
theorem dX12_holdsAll_86 : decode cX12_holdsAll 86 = .ok (.iconst 1, 1) := by decide +kernel
theorem dX12_holdsAll_87 : decode cX12_holdsAll 87 = .ok (.goto 4, 3) := by decide +kernel
theorem dX12_holdsAll_90 : decode cX12_holdsAll 90 = .ok (.iconst 0, 1) := by decide +kernel
theorem dX12_holdsAll_91 : decode cX12_holdsAll 91 = .ok (.istore 4, 2) := by decide +kernel
theorem dX12_holdsAll_93 : decode cX12_holdsAll 93 = .ok (.iload_n 2, 1) := by decide +kernel
theorem dX12_holdsAll_94 : decode cX12_holdsAll 94 = .ok (.iconst (-1), 1) := by decide +kernel
theorem dX12_holdsAll_95 : decode cX12_holdsAll 95 = .ok (.if_icmp .eq 45, 3) := by decide +kernel
theorem dX12_holdsAll_98 : decode cX12_holdsAll 98 = .ok (.aload_n 0, 1) := by decide +kernel
theorem dX12_holdsAll_99 : decode cX12_holdsAll 99 = .ok (.getfield 35, 3) := by decide +kernel
theorem dX12_holdsAll_102 : decode cX12_holdsAll 102 = .ok (.iload_n 3, 1) := by decide +kernel
theorem dX12_holdsAll_103 : decode cX12_holdsAll 103 = .ok (.iaload, 1) := by decide +kernel
theorem dX12_holdsAll_104 : decode cX12_holdsAll 104 = .ok (.aload_n 0, 1) := by decide +kernel
theorem dX12_holdsAll_105 : decode cX12_holdsAll 105 = .ok (.getfield 35, 3) := by decide +kernel
theorem dX12_holdsAll_108 : decode cX12_holdsAll 108 = .ok (.iload_n 2, 1) := by decide +kernel
theorem dX12_holdsAll_109 : decode cX12_holdsAll 109 = .ok (.iaload, 1) := by decide +kernel
theorem dX12_holdsAll_110 : decode cX12_holdsAll 110 = .ok (.if_icmp .ne 30, 3) := by decide +kernel
theorem dX12_holdsAll_113 : decode cX12_holdsAll 113 = .ok (.aload_n 0, 1) := by decide +kernel
theorem dX12_holdsAll_114 : decode cX12_holdsAll 114 = .ok (.getfield 32, 3) := by decide +kernel
theorem dX12_holdsAll_117 : decode cX12_holdsAll 117 = .ok (.iload_n 3, 1) := by decide +kernel
theorem dX12_holdsAll_118 : decode cX12_holdsAll 118 = .ok (.iaload, 1) := by decide +kernel
theorem dX12_holdsAll_119 : decode cX12_holdsAll 119 = .ok (.iload_n 1, 1) := by decide +kernel
theorem dX12_holdsAll_120 : decode cX12_holdsAll 120 = .ok (.if_icmp .ne 17, 3) := by decide +kernel
theorem dX12_holdsAll_123 : decode cX12_holdsAll 123 = .ok (.aload_n 0, 1) := by decide +kernel
theorem dX12_holdsAll_124 : decode cX12_holdsAll 124 = .ok (.getfield 32, 3) := by decide +kernel
theorem dX12_holdsAll_127 : decode cX12_holdsAll 127 = .ok (.iload_n 2, 1) := by decide +kernel
theorem dX12_holdsAll_128 : decode cX12_holdsAll 128 = .ok (.iaload, 1) := by decide +kernel
theorem dX12_holdsAll_129 : decode cX12_holdsAll 129 = .ok (.iload_n 1, 1) := by decide +kernel
theorem dX12_holdsAll_130 : decode cX12_holdsAll 130 = .ok (.if_icmp .eq 7, 3) := by decide +kernel
theorem dX12_holdsAll_133 : decode cX12_holdsAll 133 = .ok (.iconst 1, 1) := by decide +kernel
theorem dX12_holdsAll_134 : decode cX12_holdsAll 134 = .ok (.goto 4, 3) := by decide +kernel
theorem dX12_holdsAll_137 : decode cX12_holdsAll 137 = .ok (.iconst 0, 1) := by decide +kernel
theorem dX12_holdsAll_138 : decode cX12_holdsAll 138 = .ok (.istore 4, 2) := by decide +kernel
theorem dX12_holdsAll_140 : decode cX12_holdsAll 140 = .ok (.iload 4, 2) := by decide +kernel
theorem dX12_holdsAll_142 : decode cX12_holdsAll 142 = .ok (.ifCond .eq 5, 3) := by decide +kernel
theorem dX12_holdsAll_145 : decode cX12_holdsAll 145 = .ok (.iload_n 3, 1) := by decide +kernel
theorem dX12_holdsAll_146 : decode cX12_holdsAll 146 = .ok (.istore_n 2, 1) := by decide +kernel
theorem dX12_holdsAll_147 : decode cX12_holdsAll 147 = .ok (.iinc 3 1, 3) := by decide +kernel
theorem dX12_holdsAll_150 : decode cX12_holdsAll 150 = .ok (.goto (-114), 3) := by decide +kernel
theorem dX12_holdsAll_153 : decode cX12_holdsAll 153 = .ok (.aload_n 0, 1) := by decide +kernel
theorem dX12_holdsAll_154 : decode cX12_holdsAll 154 = .ok (.getfield 98, 3) := by decide +kernel
theorem dX12_holdsAll_157 : decode cX12_holdsAll 157 = .ok (.iload_n 1, 1) := by decide +kernel
theorem dX12_holdsAll_158 : decode cX12_holdsAll 158 = .ok (.iload_n 2, 1) := by decide +kernel
theorem dX12_holdsAll_159 : decode cX12_holdsAll 159 = .ok (.iastore, 1) := by decide +kernel
theorem dX12_holdsAll_160 : decode cX12_holdsAll 160 = .ok (.iconst 0, 1) := by decide +kernel
theorem dX12_holdsAll_161 : decode cX12_holdsAll 161 = .ok (.istore_n 3, 1) := by decide +kernel
theorem dX12_holdsAll_162 : decode cX12_holdsAll 162 = .ok (.iload_n 3, 1) := by decide +kernel
theorem dX12_holdsAll_163 : decode cX12_holdsAll 163 = .ok (.aload_n 0, 1) := by decide +kernel
theorem dX12_holdsAll_164 : decode cX12_holdsAll 164 = .ok (.getfield 153, 3) := by decide +kernel
theorem dX12_holdsAll_167 : decode cX12_holdsAll 167 = .ok (.if_icmp .ge 54, 3) := by decide +kernel
theorem dX12_holdsAll_170 : decode cX12_holdsAll 170 = .ok (.aload_n 0, 1) := by decide +kernel
theorem dX12_holdsAll_171 : decode cX12_holdsAll 171 = .ok (.getfield 101, 3) := by decide +kernel
theorem dX12_holdsAll_174 : decode cX12_holdsAll 174 = .ok (.iload_n 3, 1) := by decide +kernel
theorem dX12_holdsAll_175 : decode cX12_holdsAll 175 = .ok (.aload_n 0, 1) := by decide +kernel
theorem dX12_holdsAll_176 : decode cX12_holdsAll 176 = .ok (.getfield 101, 3) := by decide +kernel
theorem dX12_holdsAll_179 : decode cX12_holdsAll 179 = .ok (.iload_n 3, 1) := by decide +kernel
theorem dX12_holdsAll_180 : decode cX12_holdsAll 180 = .ok (.baload, 1) := by decide +kernel
theorem dX12_holdsAll_181 : decode cX12_holdsAll 181 = .ok (.ifCond .ne 13, 3) := by decide +kernel
theorem dX12_holdsAll_184 : decode cX12_holdsAll 184 = .ok (.aload_n 0, 1) := by decide +kernel
theorem dX12_holdsAll_185 : decode cX12_holdsAll 185 = .ok (.getfield 32, 3) := by decide +kernel
theorem dX12_holdsAll_188 : decode cX12_holdsAll 188 = .ok (.iload_n 3, 1) := by decide +kernel
theorem dX12_holdsAll_189 : decode cX12_holdsAll 189 = .ok (.iaload, 1) := by decide +kernel
theorem dX12_holdsAll_190 : decode cX12_holdsAll 190 = .ok (.iload_n 1, 1) := by decide +kernel
theorem dX12_holdsAll_191 : decode cX12_holdsAll 191 = .ok (.if_icmp .ne 22, 3) := by decide +kernel
theorem dX12_holdsAll_194 : decode cX12_holdsAll 194 = .ok (.iload_n 3, 1) := by decide +kernel
theorem dX12_holdsAll_195 : decode cX12_holdsAll 195 = .ok (.iload_n 2, 1) := by decide +kernel
theorem dX12_holdsAll_196 : decode cX12_holdsAll 196 = .ok (.if_icmp .eq 17, 3) := by decide +kernel
theorem dX12_holdsAll_199 : decode cX12_holdsAll 199 = .ok (.aload_n 0, 1) := by decide +kernel
theorem dX12_holdsAll_200 : decode cX12_holdsAll 200 = .ok (.getfield 35, 3) := by decide +kernel
theorem dX12_holdsAll_203 : decode cX12_holdsAll 203 = .ok (.iload_n 3, 1) := by decide +kernel
theorem dX12_holdsAll_204 : decode cX12_holdsAll 204 = .ok (.iaload, 1) := by decide +kernel
theorem dX12_holdsAll_205 : decode cX12_holdsAll 205 = .ok (.iconst 1, 1) := by decide +kernel
theorem dX12_holdsAll_206 : decode cX12_holdsAll 206 = .ok (.if_icmp .le 7, 3) := by decide +kernel
theorem dX12_holdsAll_209 : decode cX12_holdsAll 209 = .ok (.iconst 1, 1) := by decide +kernel
theorem dX12_holdsAll_210 : decode cX12_holdsAll 210 = .ok (.goto 4, 3) := by decide +kernel
theorem dX12_holdsAll_213 : decode cX12_holdsAll 213 = .ok (.iconst 0, 1) := by decide +kernel
theorem dX12_holdsAll_214 : decode cX12_holdsAll 214 = .ok (.bastore, 1) := by decide +kernel
theorem dX12_holdsAll_215 : decode cX12_holdsAll 215 = .ok (.iinc 3 1, 3) := by decide +kernel
theorem dX12_holdsAll_218 : decode cX12_holdsAll 218 = .ok (.goto (-56), 3) := by decide +kernel
theorem dX12_holdsAll_221 : decode cX12_holdsAll 221 = .ok (.iinc 1 1, 3) := by decide +kernel
theorem dX12_holdsAll_224 : decode cX12_holdsAll 224 = .ok (.goto (-199), 3) := by decide +kernel
theorem dX12_holdsAll_227 : decode cX12_holdsAll 227 = .ok (.return_, 1) := by decide +kernel
set_option maxRecDepth 20000 in
theorem ggX12_held_X12_isIn : GoodIn wsX12_held wsX12_isIn := goodIn_sub (List.forall_mem_cons.mpr ⟨List.mem_cons_of_mem _ (List.mem_append_left _ (List.mem_of_getElem? (i := 4) rfl)), fun _ h => absurd h List.not_mem_nil⟩) (by decide +kernel)
set_option maxRecDepth 20000 in
theorem gX12_held_X12_isIn : GoodIn wsX12_held (va_wsS RX12 130 yX12_isIn wsX12_isIn) := goodIn_app (goodIn_sub (List.forall_mem_cons.mpr ⟨List.mem_cons_of_mem _ (List.mem_append_left _ (List.mem_of_getElem? (i := 1) rfl)), List.forall_mem_cons.mpr ⟨List.mem_cons_of_mem _ (List.mem_append_left _ (List.mem_of_getElem? (i := 2) rfl)), List.forall_mem_cons.mpr ⟨List.mem_cons_of_mem _ (List.mem_append_left _ (List.mem_of_getElem? (i := 3) rfl)), fun _ h => absurd h List.not_mem_nil⟩⟩⟩) (by decide +kernel)) ggX12_held_X12_isIn
set_option maxRecDepth 20000 in
theorem ggX12_held_X12_holdsAll : GoodIn wsX12_held wsX12_holdsAll := goodIn_sub (List.forall_mem_cons.mpr ⟨List.mem_cons_of_mem _ (List.mem_append_left _ (List.mem_of_getElem? (i := 8) rfl)), List.forall_mem_append.mpr ⟨List.forall_mem_cons.mpr ⟨List.mem_cons_of_mem _ (List.mem_append_left _ (List.mem_of_getElem? (i := 9) rfl)), List.forall_mem_cons.mpr ⟨List.mem_cons_of_mem _ (List.mem_append_left _ (List.mem_of_getElem? (i := 10) rfl)), List.forall_mem_cons.mpr ⟨List.mem_cons_of_mem _ (List.mem_append_left _ (List.mem_of_getElem? (i := 11) rfl)), List.forall_mem_cons.mpr ⟨List.mem_cons_of_mem _ (List.mem_append_left _ (List.mem_of_getElem? (i := 12) rfl)), List.forall_mem_cons.mpr ⟨List.mem_cons_of_mem _ (List.mem_append_left _ (List.mem_of_getElem? (i := 0) rfl)), fun _ h => absurd h List.not_mem_nil⟩⟩⟩⟩⟩, tl_X12_held_X12⟩⟩) (by decide +kernel)
set_option maxRecDepth 20000 in
theorem gX12_held_X12_holdsAll : GoodIn wsX12_held (wsV RX12 156 RX12 yX12_holdsAll wsX12_holdsAll) := goodIn_app (goodIn_sub (List.forall_mem_cons.mpr ⟨List.mem_cons_of_mem _ (List.mem_append_left _ (List.mem_of_getElem? (i := 5) rfl)), List.forall_mem_cons.mpr ⟨List.mem_cons_of_mem _ (List.mem_append_left _ (List.mem_of_getElem? (i := 6) rfl)), List.forall_mem_cons.mpr ⟨List.mem_cons_of_mem _ (List.mem_append_left _ (List.mem_of_getElem? (i := 7) rfl)), List.forall_mem_cons.mpr ⟨List.mem_cons_of_mem _ (List.mem_append_left _ (List.mem_of_getElem? (i := 3) rfl)), fun _ h => absurd h List.not_mem_nil⟩⟩⟩⟩) (by decide +kernel)) ggX12_held_X12_holdsAll
theorem dX12_held_0 : decode cX12_held 0 = .ok (.iload_n 1, 1) := by decide +kernel
theorem dX12_held_1 : decode cX12_held 1 = .ok (.iconst 0, 1) := by decide +kernel
theorem dX12_held_2 : decode cX12_held 2 = .ok (.sipush 364, 3) := by decide +kernel
theorem dX12_held_5 : decode cX12_held 5 = .ok (.invokestatic 130, 3) := by decide +kernel
theorem dX12_held_8 : decode cX12_held 8 = .ok (.ifCond .ne 5, 3) := by decide +kernel
theorem dX12_held_11 : decode cX12_held 11 = .ok (.iconst (-1), 1) := by decide +kernel
theorem dX12_held_12 : decode cX12_held 12 = .ok (.ireturn, 1) := by decide +kernel
theorem dX12_held_13 : decode cX12_held 13 = .ok (.aload_n 0, 1) := by decide +kernel
theorem dX12_held_14 : decode cX12_held 14 = .ok (.invokevirtual 156, 3) := by decide +kernel
theorem dX12_held_17 : decode cX12_held 17 = .ok (.aload_n 0, 1) := by decide +kernel
theorem dX12_held_18 : decode cX12_held 18 = .ok (.getfield 98, 3) := by decide +kernel
theorem dX12_held_21 : decode cX12_held 21 = .ok (.iload_n 1, 1) := by decide +kernel
theorem dX12_held_22 : decode cX12_held 22 = .ok (.iaload, 1) := by decide +kernel
theorem dX12_held_23 : decode cX12_held 23 = .ok (.ireturn, 1) := by decide +kernel
set_option maxRecDepth 20000 in
theorem ggX12_when_X12_holdsAll : GoodIn wsX12_when wsX12_holdsAll := goodIn_sub (List.forall_mem_cons.mpr ⟨List.mem_cons_of_mem _ (List.mem_append_left _ (List.mem_of_getElem? (i := 5) rfl)), List.forall_mem_append.mpr ⟨List.forall_mem_cons.mpr ⟨List.mem_cons_of_mem _ (List.mem_append_left _ (List.mem_of_getElem? (i := 6) rfl)), List.forall_mem_cons.mpr ⟨List.mem_cons_of_mem _ (List.mem_append_left _ (List.mem_of_getElem? (i := 7) rfl)), List.forall_mem_cons.mpr ⟨List.mem_cons_of_mem _ (List.mem_append_left _ (List.mem_of_getElem? (i := 8) rfl)), List.forall_mem_cons.mpr ⟨List.mem_cons_of_mem _ (List.mem_append_left _ (List.mem_of_getElem? (i := 9) rfl)), List.forall_mem_cons.mpr ⟨List.mem_cons_of_mem _ (List.mem_append_left _ (List.mem_of_getElem? (i := 0) rfl)), fun _ h => absurd h List.not_mem_nil⟩⟩⟩⟩⟩, tl_X12_when_X12⟩⟩) (by decide +kernel)
set_option maxRecDepth 20000 in
theorem gX12_when_X12_holdsAll : GoodIn wsX12_when (wsV RX12 156 RX12 yX12_holdsAll wsX12_holdsAll) := goodIn_app (goodIn_sub (List.forall_mem_cons.mpr ⟨List.mem_cons_of_mem _ (List.mem_append_left _ (List.mem_of_getElem? (i := 1) rfl)), List.forall_mem_cons.mpr ⟨List.mem_cons_of_mem _ (List.mem_append_left _ (List.mem_of_getElem? (i := 2) rfl)), List.forall_mem_cons.mpr ⟨List.mem_cons_of_mem _ (List.mem_append_left _ (List.mem_of_getElem? (i := 3) rfl)), List.forall_mem_cons.mpr ⟨List.mem_cons_of_mem _ (List.mem_append_left _ (List.mem_of_getElem? (i := 4) rfl)), fun _ h => absurd h List.not_mem_nil⟩⟩⟩⟩) (by decide +kernel)) ggX12_when_X12_holdsAll
theorem dX12_when_0 : decode cX12_when 0 = .ok (.aload_n 0, 1) := by decide +kernel
theorem dX12_when_1 : decode cX12_when 1 = .ok (.invokevirtual 156, 3) := by decide +kernel
theorem dX12_when_4 : decode cX12_when 4 = .ok (.iconst 0, 1) := by decide +kernel
theorem dX12_when_5 : decode cX12_when 5 = .ok (.istore_n 2, 1) := by decide +kernel
theorem dX12_when_6 : decode cX12_when 6 = .ok (.iload_n 2, 1) := by decide +kernel
theorem dX12_when_7 : decode cX12_when 7 = .ok (.sipush 365, 3) := by decide +kernel
theorem dX12_when_10 : decode cX12_when 10 = .ok (.if_icmp .ge 25, 3) := by decide +kernel
theorem dX12_when_13 : decode cX12_when 13 = .ok (.iload_n 1, 1) := by decide +kernel
theorem dX12_when_14 : decode cX12_when 14 = .ok (.ifCond .lt 21, 3) := by decide +kernel
theorem dX12_when_17 : decode cX12_when 17 = .ok (.aload_n 0, 1) := by decide +kernel
theorem dX12_when_18 : decode cX12_when 18 = .ok (.getfield 98, 3) := by decide +kernel
theorem dX12_when_21 : decode cX12_when 21 = .ok (.iload_n 2, 1) := by decide +kernel
theorem dX12_when_22 : decode cX12_when 22 = .ok (.iaload, 1) := by decide +kernel
theorem dX12_when_23 : decode cX12_when 23 = .ok (.iload_n 1, 1) := by decide +kernel
theorem dX12_when_24 : decode cX12_when 24 = .ok (.if_icmp .ne 5, 3) := by decide +kernel
theorem dX12_when_27 : decode cX12_when 27 = .ok (.iload_n 2, 1) := by decide +kernel
theorem dX12_when_28 : decode cX12_when 28 = .ok (.ireturn, 1) := by decide +kernel
theorem dX12_when_29 : decode cX12_when 29 = .ok (.iinc 2 1, 3) := by decide +kernel
theorem dX12_when_32 : decode cX12_when 32 = .ok (.goto (-26), 3) := by decide +kernel
theorem dX12_when_35 : decode cX12_when 35 = .ok (.iconst (-1), 1) := by decide +kernel
theorem dX12_when_36 : decode cX12_when 36 = .ok (.ireturn, 1) := by decide +kernel
set_option maxRecDepth 20000 in
theorem ggX12_rankOn_X12_held : GoodIn wsX12_rankOn wsX12_held := goodIn_sub (List.forall_mem_cons.mpr ⟨List.mem_cons_of_mem _ (List.mem_append_left _ (List.mem_of_getElem? (i := 5) rfl)), List.forall_mem_append.mpr ⟨List.forall_mem_cons.mpr ⟨List.mem_cons_of_mem _ (List.mem_append_left _ (List.mem_of_getElem? (i := 6) rfl)), List.forall_mem_cons.mpr ⟨List.mem_cons_of_mem _ (List.mem_append_left _ (List.mem_of_getElem? (i := 7) rfl)), List.forall_mem_cons.mpr ⟨List.mem_cons_of_mem _ (List.mem_append_left _ (List.mem_of_getElem? (i := 8) rfl)), List.forall_mem_cons.mpr ⟨List.mem_cons_of_mem _ (List.mem_append_left _ (List.mem_of_getElem? (i := 4) rfl)), List.forall_mem_cons.mpr ⟨List.mem_cons_of_mem _ (List.mem_append_left _ (List.mem_of_getElem? (i := 9) rfl)), List.forall_mem_cons.mpr ⟨List.mem_cons_of_mem _ (List.mem_append_left _ (List.mem_of_getElem? (i := 10) rfl)), List.forall_mem_cons.mpr ⟨List.mem_cons_of_mem _ (List.mem_append_left _ (List.mem_of_getElem? (i := 11) rfl)), List.forall_mem_cons.mpr ⟨List.mem_cons_of_mem _ (List.mem_append_left _ (List.mem_of_getElem? (i := 12) rfl)), List.forall_mem_cons.mpr ⟨List.mem_cons_of_mem _ (List.mem_append_left _ (List.mem_of_getElem? (i := 13) rfl)), List.forall_mem_cons.mpr ⟨List.mem_cons_of_mem _ (List.mem_append_left _ (List.mem_of_getElem? (i := 14) rfl)), List.forall_mem_cons.mpr ⟨List.mem_cons_of_mem _ (List.mem_append_left _ (List.mem_of_getElem? (i := 15) rfl)), List.forall_mem_cons.mpr ⟨List.mem_cons_of_mem _ (List.mem_append_left _ (List.mem_of_getElem? (i := 16) rfl)), List.forall_mem_cons.mpr ⟨List.mem_cons_of_mem _ (List.mem_append_left _ (List.mem_of_getElem? (i := 0) rfl)), fun _ h => absurd h List.not_mem_nil⟩⟩⟩⟩⟩⟩⟩⟩⟩⟩⟩⟩⟩, tl_X12_rankOn_X12⟩⟩) (by decide +kernel)
set_option maxRecDepth 20000 in
theorem gX12_rankOn_X12_held : GoodIn wsX12_rankOn (wsV RX12 159 RX12 yX12_held wsX12_held) := goodIn_app (goodIn_sub (List.forall_mem_cons.mpr ⟨List.mem_cons_of_mem _ (List.mem_append_left _ (List.mem_of_getElem? (i := 1) rfl)), List.forall_mem_cons.mpr ⟨List.mem_cons_of_mem _ (List.mem_append_left _ (List.mem_of_getElem? (i := 2) rfl)), List.forall_mem_cons.mpr ⟨List.mem_cons_of_mem _ (List.mem_append_left _ (List.mem_of_getElem? (i := 3) rfl)), List.forall_mem_cons.mpr ⟨List.mem_cons_of_mem _ (List.mem_append_left _ (List.mem_of_getElem? (i := 4) rfl)), fun _ h => absurd h List.not_mem_nil⟩⟩⟩⟩) (by decide +kernel)) ggX12_rankOn_X12_held
theorem dX12_rankOn_0 : decode cX12_rankOn 0 = .ok (.aload_n 0, 1) := by decide +kernel
theorem dX12_rankOn_1 : decode cX12_rankOn 1 = .ok (.iload_n 1, 1) := by decide +kernel
theorem dX12_rankOn_2 : decode cX12_rankOn 2 = .ok (.sipush 365, 3) := by decide +kernel
theorem dX12_rankOn_5 : decode cX12_rankOn 5 = .ok (.irem, 1) := by decide +kernel
theorem dX12_rankOn_6 : decode cX12_rankOn 6 = .ok (.invokevirtual 159, 3) := by decide +kernel
theorem dX12_rankOn_9 : decode cX12_rankOn 9 = .ok (.istore_n 2, 1) := by decide +kernel
theorem dX12_rankOn_10 : decode cX12_rankOn 10 = .ok (.iload_n 2, 1) := by decide +kernel
theorem dX12_rankOn_11 : decode cX12_rankOn 11 = .ok (.iconst (-1), 1) := by decide +kernel
theorem dX12_rankOn_12 : decode cX12_rankOn 12 = .ok (.if_icmp .ne 7, 3) := by decide +kernel
theorem dX12_rankOn_15 : decode cX12_rankOn 15 = .ok (.iconst 0, 1) := by decide +kernel
theorem dX12_rankOn_16 : decode cX12_rankOn 16 = .ok (.goto 9, 3) := by decide +kernel
theorem dX12_rankOn_19 : decode cX12_rankOn 19 = .ok (.aload_n 0, 1) := by decide +kernel
theorem dX12_rankOn_20 : decode cX12_rankOn 20 = .ok (.getfield 35, 3) := by decide +kernel
theorem dX12_rankOn_23 : decode cX12_rankOn 23 = .ok (.iload_n 2, 1) := by decide +kernel
theorem dX12_rankOn_24 : decode cX12_rankOn 24 = .ok (.iaload, 1) := by decide +kernel
theorem dX12_rankOn_25 : decode cX12_rankOn 25 = .ok (.ireturn, 1) := by decide +kernel
theorem dX12_lightOf_0 : decode cX12_lightOf 0 = .ok (.iload_n 0, 1) := by decide +kernel
theorem dX12_lightOf_1 : decode cX12_lightOf 1 = .ok (.sipush 355, 3) := by decide +kernel
theorem dX12_lightOf_4 : decode cX12_lightOf 4 = .ok (.if_icmp .lt 11, 3) := by decide +kernel
theorem dX12_lightOf_7 : decode cX12_lightOf 7 = .ok (.iload_n 0, 1) := by decide +kernel
theorem dX12_lightOf_8 : decode cX12_lightOf 8 = .ok (.sipush 355, 3) := by decide +kernel
theorem dX12_lightOf_11 : decode cX12_lightOf 11 = .ok (.isub, 1) := by decide +kernel
theorem dX12_lightOf_12 : decode cX12_lightOf 12 = .ok (.goto 7, 3) := by decide +kernel
theorem dX12_lightOf_15 : decode cX12_lightOf 15 = .ok (.iload_n 0, 1) := by decide +kernel
theorem dX12_lightOf_16 : decode cX12_lightOf 16 = .ok (.bipush 10, 2) := by decide +kernel
theorem dX12_lightOf_18 : decode cX12_lightOf 18 = .ok (.iadd, 1) := by decide +kernel
theorem dX12_lightOf_19 : decode cX12_lightOf 19 = .ok (.istore_n 1, 1) := by decide +kernel
theorem dX12_lightOf_20 : decode cX12_lightOf 20 = .ok (.iload_n 1, 1) := by decide +kernel
theorem dX12_lightOf_21 : decode cX12_lightOf 21 = .ok (.sipush 182, 3) := by decide +kernel
theorem dX12_lightOf_24 : decode cX12_lightOf 24 = .ok (.if_icmp .gt 19, 3) := by decide +kernel
theorem dX12_lightOf_27 : decode cX12_lightOf 27 = .ok (.sipush 480, 3) := by decide +kernel
theorem dX12_lightOf_30 : decode cX12_lightOf 30 = .ok (.sipush 480, 3) := by decide +kernel
theorem dX12_lightOf_33 : decode cX12_lightOf 33 = .ok (.iload_n 1, 1) := by decide +kernel
theorem dX12_lightOf_34 : decode cX12_lightOf 34 = .ok (.imul, 1) := by decide +kernel
theorem dX12_lightOf_35 : decode cX12_lightOf 35 = .ok (.sipush 182, 3) := by decide +kernel
theorem dX12_lightOf_38 : decode cX12_lightOf 38 = .ok (.idiv, 1) := by decide +kernel
theorem dX12_lightOf_39 : decode cX12_lightOf 39 = .ok (.iadd, 1) := by decide +kernel
theorem dX12_lightOf_40 : decode cX12_lightOf 40 = .ok (.goto 20, 3) := by decide +kernel
theorem dX12_lightOf_43 : decode cX12_lightOf 43 = .ok (.sipush 960, 3) := by decide +kernel
theorem dX12_lightOf_46 : decode cX12_lightOf 46 = .ok (.sipush 480, 3) := by decide +kernel
theorem dX12_lightOf_49 : decode cX12_lightOf 49 = .ok (.iload_n 1, 1) := by decide +kernel
theorem dX12_lightOf_50 : decode cX12_lightOf 50 = .ok (.sipush 182, 3) := by decide +kernel
theorem dX12_lightOf_53 : decode cX12_lightOf 53 = .ok (.isub, 1) := by decide +kernel
theorem dX12_lightOf_54 : decode cX12_lightOf 54 = .ok (.imul, 1) := by decide +kernel
theorem dX12_lightOf_55 : decode cX12_lightOf 55 = .ok (.sipush 183, 3) := by decide +kernel
theorem dX12_lightOf_58 : decode cX12_lightOf 58 = .ok (.idiv, 1) := by decide +kernel
theorem dX12_lightOf_59 : decode cX12_lightOf 59 = .ok (.isub, 1) := by decide +kernel
theorem dX12_lightOf_60 : decode cX12_lightOf 60 = .ok (.ireturn, 1) := by decide +kernel
set_option maxRecDepth 20000 in
theorem ggX12_rises_X12_lightOf : GoodIn wsX12_rises wsX12_lightOf := goodIn_sub (List.forall_mem_cons.mpr ⟨List.mem_cons_of_mem _ (List.mem_of_getElem? (i := 3) rfl), fun _ h => absurd h List.not_mem_nil⟩) (by decide +kernel)
set_option maxRecDepth 20000 in
theorem gX12_rises_X12_lightOf : GoodIn wsX12_rises (va_wsS RX12 163 yX12_lightOf wsX12_lightOf) := goodIn_app (goodIn_sub (List.forall_mem_cons.mpr ⟨List.mem_cons_of_mem _ (List.mem_of_getElem? (i := 0) rfl), List.forall_mem_cons.mpr ⟨List.mem_cons_of_mem _ (List.mem_of_getElem? (i := 1) rfl), List.forall_mem_cons.mpr ⟨List.mem_cons_of_mem _ (List.mem_of_getElem? (i := 2) rfl), fun _ h => absurd h List.not_mem_nil⟩⟩⟩) (by decide +kernel)) ggX12_rises_X12_lightOf
theorem dX12_rises_0 : decode cX12_rises 0 = .ok (.sipush 720, 3) := by decide +kernel
theorem dX12_rises_3 : decode cX12_rises 3 = .ok (.iload_n 0, 1) := by decide +kernel
theorem dX12_rises_4 : decode cX12_rises 4 = .ok (.invokestatic 163, 3) := by decide +kernel
theorem dX12_rises_7 : decode cX12_rises 7 = .ok (.iconst 2, 1) := by decide +kernel
theorem dX12_rises_8 : decode cX12_rises 8 = .ok (.idiv, 1) := by decide +kernel
theorem dX12_rises_9 : decode cX12_rises 9 = .ok (.isub, 1) := by decide +kernel
theorem dX12_rises_10 : decode cX12_rises 10 = .ok (.ireturn, 1) := by decide +kernel
set_option maxRecDepth 20000 in
theorem ggX12_sets_X12_rises : GoodIn wsX12_sets wsX12_rises := goodIn_sub (List.forall_mem_cons.mpr ⟨List.mem_cons_of_mem _ (List.mem_of_getElem? (i := 3) rfl), List.forall_mem_cons.mpr ⟨List.mem_cons_of_mem _ (List.mem_of_getElem? (i := 4) rfl), List.forall_mem_cons.mpr ⟨List.mem_cons_of_mem _ (List.mem_of_getElem? (i := 5) rfl), List.forall_mem_cons.mpr ⟨List.mem_cons_of_mem _ (List.mem_of_getElem? (i := 2) rfl), List.forall_mem_cons.mpr ⟨List.mem_cons_of_mem _ (List.mem_of_getElem? (i := 6) rfl), fun _ h => absurd h List.not_mem_nil⟩⟩⟩⟩⟩) (by decide +kernel)
set_option maxRecDepth 20000 in
theorem gX12_sets_X12_rises : GoodIn wsX12_sets (va_wsS RX12 166 yX12_rises wsX12_rises) := goodIn_app (goodIn_sub (List.forall_mem_cons.mpr ⟨List.mem_cons_of_mem _ (List.mem_of_getElem? (i := 0) rfl), List.forall_mem_cons.mpr ⟨List.mem_cons_of_mem _ (List.mem_of_getElem? (i := 1) rfl), List.forall_mem_cons.mpr ⟨List.mem_cons_of_mem _ (List.mem_of_getElem? (i := 2) rfl), fun _ h => absurd h List.not_mem_nil⟩⟩⟩) (by decide +kernel)) ggX12_sets_X12_rises
set_option maxRecDepth 20000 in
theorem ggX12_sets_X12_lightOf : GoodIn wsX12_sets wsX12_lightOf := goodIn_sub (List.forall_mem_cons.mpr ⟨List.mem_cons_of_mem _ (List.mem_of_getElem? (i := 6) rfl), fun _ h => absurd h List.not_mem_nil⟩) (by decide +kernel)
set_option maxRecDepth 20000 in
theorem gX12_sets_X12_lightOf : GoodIn wsX12_sets (va_wsS RX12 163 yX12_lightOf wsX12_lightOf) := goodIn_app (goodIn_sub (List.forall_mem_cons.mpr ⟨List.mem_cons_of_mem _ (List.mem_of_getElem? (i := 4) rfl), List.forall_mem_cons.mpr ⟨List.mem_cons_of_mem _ (List.mem_of_getElem? (i := 5) rfl), List.forall_mem_cons.mpr ⟨List.mem_cons_of_mem _ (List.mem_of_getElem? (i := 2) rfl), fun _ h => absurd h List.not_mem_nil⟩⟩⟩) (by decide +kernel)) ggX12_sets_X12_lightOf
theorem dX12_sets_0 : decode cX12_sets 0 = .ok (.iload_n 0, 1) := by decide +kernel
theorem dX12_sets_1 : decode cX12_sets 1 = .ok (.invokestatic 166, 3) := by decide +kernel
theorem dX12_sets_4 : decode cX12_sets 4 = .ok (.iload_n 0, 1) := by decide +kernel
theorem dX12_sets_5 : decode cX12_sets 5 = .ok (.invokestatic 163, 3) := by decide +kernel
theorem dX12_sets_8 : decode cX12_sets 8 = .ok (.iadd, 1) := by decide +kernel
theorem dX12_sets_9 : decode cX12_sets 9 = .ok (.ireturn, 1) := by decide +kernel
set_option maxRecDepth 20000 in
theorem ggX12_light_X12_isIn : GoodIn wsX12_light wsX12_isIn := goodIn_sub (List.forall_mem_cons.mpr ⟨List.mem_cons_of_mem _ (List.mem_of_getElem? (i := 3) rfl), fun _ h => absurd h List.not_mem_nil⟩) (by decide +kernel)
set_option maxRecDepth 20000 in
theorem gX12_light_X12_isIn : GoodIn wsX12_light (va_wsS RX12 130 yX12_isIn wsX12_isIn) := goodIn_app (goodIn_sub (List.forall_mem_cons.mpr ⟨List.mem_cons_of_mem _ (List.mem_of_getElem? (i := 0) rfl), List.forall_mem_cons.mpr ⟨List.mem_cons_of_mem _ (List.mem_of_getElem? (i := 1) rfl), List.forall_mem_cons.mpr ⟨List.mem_cons_of_mem _ (List.mem_of_getElem? (i := 2) rfl), fun _ h => absurd h List.not_mem_nil⟩⟩⟩) (by decide +kernel)) ggX12_light_X12_isIn
set_option maxRecDepth 20000 in
theorem ggX12_light_X12_lightOf : GoodIn wsX12_light wsX12_lightOf := goodIn_sub (List.forall_mem_cons.mpr ⟨List.mem_cons_of_mem _ (List.mem_of_getElem? (i := 6) rfl), fun _ h => absurd h List.not_mem_nil⟩) (by decide +kernel)
set_option maxRecDepth 20000 in
theorem gX12_light_X12_lightOf : GoodIn wsX12_light (va_wsS RX12 163 yX12_lightOf wsX12_lightOf) := goodIn_app (goodIn_sub (List.forall_mem_cons.mpr ⟨List.mem_cons_of_mem _ (List.mem_of_getElem? (i := 4) rfl), List.forall_mem_cons.mpr ⟨List.mem_cons_of_mem _ (List.mem_of_getElem? (i := 5) rfl), List.forall_mem_cons.mpr ⟨List.mem_cons_of_mem _ (List.mem_of_getElem? (i := 2) rfl), fun _ h => absurd h List.not_mem_nil⟩⟩⟩) (by decide +kernel)) ggX12_light_X12_lightOf
set_option maxRecDepth 20000 in
theorem ggX12_light_X12_rises : GoodIn wsX12_light wsX12_rises := goodIn_sub (List.forall_mem_cons.mpr ⟨List.mem_cons_of_mem _ (List.mem_of_getElem? (i := 9) rfl), List.forall_mem_cons.mpr ⟨List.mem_cons_of_mem _ (List.mem_of_getElem? (i := 4) rfl), List.forall_mem_cons.mpr ⟨List.mem_cons_of_mem _ (List.mem_of_getElem? (i := 5) rfl), List.forall_mem_cons.mpr ⟨List.mem_cons_of_mem _ (List.mem_of_getElem? (i := 2) rfl), List.forall_mem_cons.mpr ⟨List.mem_cons_of_mem _ (List.mem_of_getElem? (i := 6) rfl), fun _ h => absurd h List.not_mem_nil⟩⟩⟩⟩⟩) (by decide +kernel)
set_option maxRecDepth 20000 in
theorem gX12_light_X12_rises : GoodIn wsX12_light (va_wsS RX12 166 yX12_rises wsX12_rises) := goodIn_app (goodIn_sub (List.forall_mem_cons.mpr ⟨List.mem_cons_of_mem _ (List.mem_of_getElem? (i := 7) rfl), List.forall_mem_cons.mpr ⟨List.mem_cons_of_mem _ (List.mem_of_getElem? (i := 8) rfl), List.forall_mem_cons.mpr ⟨List.mem_cons_of_mem _ (List.mem_of_getElem? (i := 2) rfl), fun _ h => absurd h List.not_mem_nil⟩⟩⟩) (by decide +kernel)) ggX12_light_X12_rises
set_option maxRecDepth 20000 in
theorem ggX12_light_X12_sets : GoodIn wsX12_light wsX12_sets := goodIn_sub (List.forall_mem_cons.mpr ⟨List.mem_cons_of_mem _ (List.mem_of_getElem? (i := 12) rfl), List.forall_mem_cons.mpr ⟨List.mem_cons_of_mem _ (List.mem_of_getElem? (i := 7) rfl), List.forall_mem_cons.mpr ⟨List.mem_cons_of_mem _ (List.mem_of_getElem? (i := 8) rfl), List.forall_mem_cons.mpr ⟨List.mem_cons_of_mem _ (List.mem_of_getElem? (i := 2) rfl), List.forall_mem_cons.mpr ⟨List.mem_cons_of_mem _ (List.mem_of_getElem? (i := 9) rfl), List.forall_mem_cons.mpr ⟨List.mem_cons_of_mem _ (List.mem_of_getElem? (i := 4) rfl), List.forall_mem_cons.mpr ⟨List.mem_cons_of_mem _ (List.mem_of_getElem? (i := 5) rfl), List.forall_mem_cons.mpr ⟨List.mem_cons_of_mem _ (List.mem_of_getElem? (i := 6) rfl), fun _ h => absurd h List.not_mem_nil⟩⟩⟩⟩⟩⟩⟩⟩) (by decide +kernel)
set_option maxRecDepth 20000 in
theorem gX12_light_X12_sets : GoodIn wsX12_light (va_wsS RX12 169 yX12_sets wsX12_sets) := goodIn_app (goodIn_sub (List.forall_mem_cons.mpr ⟨List.mem_cons_of_mem _ (List.mem_of_getElem? (i := 10) rfl), List.forall_mem_cons.mpr ⟨List.mem_cons_of_mem _ (List.mem_of_getElem? (i := 11) rfl), List.forall_mem_cons.mpr ⟨List.mem_cons_of_mem _ (List.mem_of_getElem? (i := 2) rfl), fun _ h => absurd h List.not_mem_nil⟩⟩⟩) (by decide +kernel)) ggX12_light_X12_sets
theorem dX12_light_0 : decode cX12_light 0 = .ok (.iload_n 1, 1) := by decide +kernel
theorem dX12_light_1 : decode cX12_light 1 = .ok (.iconst 0, 1) := by decide +kernel
theorem dX12_light_2 : decode cX12_light 2 = .ok (.sipush 364, 3) := by decide +kernel
theorem dX12_light_5 : decode cX12_light 5 = .ok (.invokestatic 130, 3) := by decide +kernel
theorem dX12_light_8 : decode cX12_light 8 = .ok (.ifCond .eq 12, 3) := by decide +kernel
theorem dX12_light_11 : decode cX12_light 11 = .ok (.iload_n 2, 1) := by decide +kernel
theorem dX12_light_12 : decode cX12_light 12 = .ok (.iconst 0, 1) := by decide +kernel
theorem dX12_light_13 : decode cX12_light 13 = .ok (.iconst 2, 1) := by decide +kernel
theorem dX12_light_14 : decode cX12_light 14 = .ok (.invokestatic 130, 3) := by decide +kernel
theorem dX12_light_17 : decode cX12_light 17 = .ok (.ifCond .ne 7, 3) := by decide +kernel
theorem dX12_light_20 : decode cX12_light 20 = .ok (.iconst (-1), 1) := by decide +kernel
theorem dX12_light_21 : decode cX12_light 21 = .ok (.goto 30, 3) := by decide +kernel
theorem dX12_light_24 : decode cX12_light 24 = .ok (.iload_n 2, 1) := by decide +kernel
theorem dX12_light_25 : decode cX12_light 25 = .ok (.ifCond .ne 10, 3) := by decide +kernel
theorem dX12_light_28 : decode cX12_light 28 = .ok (.iload_n 1, 1) := by decide +kernel
theorem dX12_light_29 : decode cX12_light 29 = .ok (.invokestatic 163, 3) := by decide +kernel
theorem dX12_light_32 : decode cX12_light 32 = .ok (.goto 19, 3) := by decide +kernel
theorem dX12_light_35 : decode cX12_light 35 = .ok (.iload_n 2, 1) := by decide +kernel
theorem dX12_light_36 : decode cX12_light 36 = .ok (.iconst 1, 1) := by decide +kernel
theorem dX12_light_37 : decode cX12_light 37 = .ok (.if_icmp .ne 10, 3) := by decide +kernel
theorem dX12_light_40 : decode cX12_light 40 = .ok (.iload_n 1, 1) := by decide +kernel
theorem dX12_light_41 : decode cX12_light 41 = .ok (.invokestatic 166, 3) := by decide +kernel
theorem dX12_light_44 : decode cX12_light 44 = .ok (.goto 7, 3) := by decide +kernel
theorem dX12_light_47 : decode cX12_light 47 = .ok (.iload_n 1, 1) := by decide +kernel
theorem dX12_light_48 : decode cX12_light 48 = .ok (.invokestatic 169, 3) := by decide +kernel
theorem dX12_light_51 : decode cX12_light 51 = .ok (.ireturn, 1) := by decide +kernel
set_option maxRecDepth 20000 in
theorem ggX12_plain_X12_rises : GoodIn wsX12_plain wsX12_rises := goodIn_sub (List.forall_mem_cons.mpr ⟨List.mem_cons_of_mem _ (List.mem_of_getElem? (i := 3) rfl), List.forall_mem_cons.mpr ⟨List.mem_cons_of_mem _ (List.mem_of_getElem? (i := 4) rfl), List.forall_mem_cons.mpr ⟨List.mem_cons_of_mem _ (List.mem_of_getElem? (i := 5) rfl), List.forall_mem_cons.mpr ⟨List.mem_cons_of_mem _ (List.mem_of_getElem? (i := 2) rfl), List.forall_mem_cons.mpr ⟨List.mem_cons_of_mem _ (List.mem_of_getElem? (i := 6) rfl), fun _ h => absurd h List.not_mem_nil⟩⟩⟩⟩⟩) (by decide +kernel)
set_option maxRecDepth 20000 in
theorem gX12_plain_X12_rises : GoodIn wsX12_plain (va_wsS RX12 166 yX12_rises wsX12_rises) := goodIn_app (goodIn_sub (List.forall_mem_cons.mpr ⟨List.mem_cons_of_mem _ (List.mem_of_getElem? (i := 0) rfl), List.forall_mem_cons.mpr ⟨List.mem_cons_of_mem _ (List.mem_of_getElem? (i := 1) rfl), List.forall_mem_cons.mpr ⟨List.mem_cons_of_mem _ (List.mem_of_getElem? (i := 2) rfl), fun _ h => absurd h List.not_mem_nil⟩⟩⟩) (by decide +kernel)) ggX12_plain_X12_rises
set_option maxRecDepth 20000 in
theorem ggX12_plain_X12_sets : GoodIn wsX12_plain wsX12_sets := goodIn_sub (List.forall_mem_cons.mpr ⟨List.mem_cons_of_mem _ (List.mem_of_getElem? (i := 9) rfl), List.forall_mem_cons.mpr ⟨List.mem_cons_of_mem _ (List.mem_of_getElem? (i := 0) rfl), List.forall_mem_cons.mpr ⟨List.mem_cons_of_mem _ (List.mem_of_getElem? (i := 1) rfl), List.forall_mem_cons.mpr ⟨List.mem_cons_of_mem _ (List.mem_of_getElem? (i := 2) rfl), List.forall_mem_cons.mpr ⟨List.mem_cons_of_mem _ (List.mem_of_getElem? (i := 3) rfl), List.forall_mem_cons.mpr ⟨List.mem_cons_of_mem _ (List.mem_of_getElem? (i := 4) rfl), List.forall_mem_cons.mpr ⟨List.mem_cons_of_mem _ (List.mem_of_getElem? (i := 5) rfl), List.forall_mem_cons.mpr ⟨List.mem_cons_of_mem _ (List.mem_of_getElem? (i := 6) rfl), fun _ h => absurd h List.not_mem_nil⟩⟩⟩⟩⟩⟩⟩⟩) (by decide +kernel)
set_option maxRecDepth 20000 in
theorem gX12_plain_X12_sets : GoodIn wsX12_plain (va_wsS RX12 169 yX12_sets wsX12_sets) := goodIn_app (goodIn_sub (List.forall_mem_cons.mpr ⟨List.mem_cons_of_mem _ (List.mem_of_getElem? (i := 7) rfl), List.forall_mem_cons.mpr ⟨List.mem_cons_of_mem _ (List.mem_of_getElem? (i := 8) rfl), List.forall_mem_cons.mpr ⟨List.mem_cons_of_mem _ (List.mem_of_getElem? (i := 2) rfl), fun _ h => absurd h List.not_mem_nil⟩⟩⟩) (by decide +kernel)) ggX12_plain_X12_sets
set_option maxRecDepth 20000 in
theorem ggX12_plain_X12_lightOf : GoodIn wsX12_plain wsX12_lightOf := goodIn_sub (List.forall_mem_cons.mpr ⟨List.mem_cons_of_mem _ (List.mem_of_getElem? (i := 6) rfl), fun _ h => absurd h List.not_mem_nil⟩) (by decide +kernel)
set_option maxRecDepth 20000 in
theorem gX12_plain_X12_lightOf : GoodIn wsX12_plain (va_wsS RX12 163 yX12_lightOf wsX12_lightOf) := goodIn_app (goodIn_sub (List.forall_mem_cons.mpr ⟨List.mem_cons_of_mem _ (List.mem_of_getElem? (i := 4) rfl), List.forall_mem_cons.mpr ⟨List.mem_cons_of_mem _ (List.mem_of_getElem? (i := 5) rfl), List.forall_mem_cons.mpr ⟨List.mem_cons_of_mem _ (List.mem_of_getElem? (i := 2) rfl), fun _ h => absurd h List.not_mem_nil⟩⟩⟩) (by decide +kernel)) ggX12_plain_X12_lightOf
theorem dX12_plain_0 : decode cX12_plain 0 = .ok (.iload_n 0, 1) := by decide +kernel
theorem dX12_plain_1 : decode cX12_plain 1 = .ok (.sipush 365, 3) := by decide +kernel
theorem dX12_plain_4 : decode cX12_plain 4 = .ok (.irem, 1) := by decide +kernel
theorem dX12_plain_5 : decode cX12_plain 5 = .ok (.istore_n 2, 1) := by decide +kernel
theorem dX12_plain_6 : decode cX12_plain 6 = .ok (.iload_n 1, 1) := by decide +kernel
theorem dX12_plain_7 : decode cX12_plain 7 = .ok (.ifCond .ne 10, 3) := by decide +kernel
theorem dX12_plain_10 : decode cX12_plain 10 = .ok (.iload_n 2, 1) := by decide +kernel
theorem dX12_plain_11 : decode cX12_plain 11 = .ok (.invokestatic 166, 3) := by decide +kernel
theorem dX12_plain_14 : decode cX12_plain 14 = .ok (.iconst 3, 1) := by decide +kernel
theorem dX12_plain_15 : decode cX12_plain 15 = .ok (.idiv, 1) := by decide +kernel
theorem dX12_plain_16 : decode cX12_plain 16 = .ok (.ireturn, 1) := by decide +kernel
theorem dX12_plain_17 : decode cX12_plain 17 = .ok (.iload_n 1, 1) := by decide +kernel
theorem dX12_plain_18 : decode cX12_plain 18 = .ok (.iconst 1, 1) := by decide +kernel
theorem dX12_plain_19 : decode cX12_plain 19 = .ok (.if_icmp .ne 11, 3) := by decide +kernel
theorem dX12_plain_22 : decode cX12_plain 22 = .ok (.iload_n 2, 1) := by decide +kernel
theorem dX12_plain_23 : decode cX12_plain 23 = .ok (.invokestatic 166, 3) := by decide +kernel
theorem dX12_plain_26 : decode cX12_plain 26 = .ok (.bipush 60, 2) := by decide +kernel
theorem dX12_plain_28 : decode cX12_plain 28 = .ok (.isub, 1) := by decide +kernel
theorem dX12_plain_29 : decode cX12_plain 29 = .ok (.ireturn, 1) := by decide +kernel
theorem dX12_plain_30 : decode cX12_plain 30 = .ok (.iload_n 1, 1) := by decide +kernel
theorem dX12_plain_31 : decode cX12_plain 31 = .ok (.bipush 7, 2) := by decide +kernel
theorem dX12_plain_33 : decode cX12_plain 33 = .ok (.if_icmp .ne 19, 3) := by decide +kernel
theorem dX12_plain_36 : decode cX12_plain 36 = .ok (.iload_n 2, 1) := by decide +kernel
theorem dX12_plain_37 : decode cX12_plain 37 = .ok (.invokestatic 169, 3) := by decide +kernel
theorem dX12_plain_40 : decode cX12_plain 40 = .ok (.sipush 1440, 3) := by decide +kernel
theorem dX12_plain_43 : decode cX12_plain 43 = .ok (.iload_n 2, 1) := by decide +kernel
theorem dX12_plain_44 : decode cX12_plain 44 = .ok (.invokestatic 169, 3) := by decide +kernel
theorem dX12_plain_47 : decode cX12_plain 47 = .ok (.isub, 1) := by decide +kernel
theorem dX12_plain_48 : decode cX12_plain 48 = .ok (.iconst 3, 1) := by decide +kernel
theorem dX12_plain_49 : decode cX12_plain 49 = .ok (.idiv, 1) := by decide +kernel
theorem dX12_plain_50 : decode cX12_plain 50 = .ok (.iadd, 1) := by decide +kernel
theorem dX12_plain_51 : decode cX12_plain 51 = .ok (.ireturn, 1) := by decide +kernel
theorem dX12_plain_52 : decode cX12_plain 52 = .ok (.iload_n 1, 1) := by decide +kernel
theorem dX12_plain_53 : decode cX12_plain 53 = .ok (.bipush 6, 2) := by decide +kernel
theorem dX12_plain_55 : decode cX12_plain 55 = .ok (.if_icmp .ge 11, 3) := by decide +kernel
theorem dX12_plain_58 : decode cX12_plain 58 = .ok (.iconst 3, 1) := by decide +kernel
theorem dX12_plain_59 : decode cX12_plain 59 = .ok (.iload_n 1, 1) := by decide +kernel
theorem dX12_plain_60 : decode cX12_plain 60 = .ok (.iconst 2, 1) := by decide +kernel
theorem dX12_plain_61 : decode cX12_plain 61 = .ok (.isub, 1) := by decide +kernel
theorem dX12_plain_62 : decode cX12_plain 62 = .ok (.imul, 1) := by decide +kernel
theorem dX12_plain_63 : decode cX12_plain 63 = .ok (.goto 5, 3) := by decide +kernel
theorem dX12_plain_66 : decode cX12_plain 66 = .ok (.bipush 11, 2) := by decide +kernel
theorem dX12_plain_68 : decode cX12_plain 68 = .ok (.istore_n 3, 1) := by decide +kernel
theorem dX12_plain_69 : decode cX12_plain 69 = .ok (.iload_n 2, 1) := by decide +kernel
theorem dX12_plain_70 : decode cX12_plain 70 = .ok (.invokestatic 166, 3) := by decide +kernel
theorem dX12_plain_73 : decode cX12_plain 73 = .ok (.iload_n 2, 1) := by decide +kernel
theorem dX12_plain_74 : decode cX12_plain 74 = .ok (.invokestatic 163, 3) := by decide +kernel
theorem dX12_plain_77 : decode cX12_plain 77 = .ok (.iload_n 3, 1) := by decide +kernel
theorem dX12_plain_78 : decode cX12_plain 78 = .ok (.imul, 1) := by decide +kernel
theorem dX12_plain_79 : decode cX12_plain 79 = .ok (.bipush 12, 2) := by decide +kernel
theorem dX12_plain_81 : decode cX12_plain 81 = .ok (.idiv, 1) := by decide +kernel
theorem dX12_plain_82 : decode cX12_plain 82 = .ok (.iadd, 1) := by decide +kernel
theorem dX12_plain_83 : decode cX12_plain 83 = .ok (.ireturn, 1) := by decide +kernel
theorem dX12_lateRow_0 : decode cX12_lateRow 0 = .ok (.iconst 0, 1) := by decide +kernel
theorem dX12_lateRow_1 : decode cX12_lateRow 1 = .ok (.istore_n 3, 1) := by decide +kernel
theorem dX12_lateRow_2 : decode cX12_lateRow 2 = .ok (.iload_n 3, 1) := by decide +kernel
theorem dX12_lateRow_3 : decode cX12_lateRow 3 = .ok (.aload_n 0, 1) := by decide +kernel
theorem dX12_lateRow_4 : decode cX12_lateRow 4 = .ok (.getfield 172, 3) := by decide +kernel
theorem dX12_lateRow_7 : decode cX12_lateRow 7 = .ok (.if_icmp .ge 31, 3) := by decide +kernel
theorem dX12_lateRow_10 : decode cX12_lateRow 10 = .ok (.aload_n 0, 1) := by decide +kernel
theorem dX12_lateRow_11 : decode cX12_lateRow 11 = .ok (.getfield 68, 3) := by decide +kernel
theorem dX12_lateRow_14 : decode cX12_lateRow 14 = .ok (.iload_n 3, 1) := by decide +kernel
theorem dX12_lateRow_15 : decode cX12_lateRow 15 = .ok (.iaload, 1) := by decide +kernel
theorem dX12_lateRow_16 : decode cX12_lateRow 16 = .ok (.iload_n 1, 1) := by decide +kernel
theorem dX12_lateRow_17 : decode cX12_lateRow 17 = .ok (.if_icmp .ne 15, 3) := by decide +kernel
theorem dX12_lateRow_20 : decode cX12_lateRow 20 = .ok (.aload_n 0, 1) := by decide +kernel
theorem dX12_lateRow_21 : decode cX12_lateRow 21 = .ok (.getfield 71, 3) := by decide +kernel
theorem dX12_lateRow_24 : decode cX12_lateRow 24 = .ok (.iload_n 3, 1) := by decide +kernel
theorem dX12_lateRow_25 : decode cX12_lateRow 25 = .ok (.iaload, 1) := by decide +kernel
theorem dX12_lateRow_26 : decode cX12_lateRow 26 = .ok (.iload_n 2, 1) := by decide +kernel
theorem dX12_lateRow_27 : decode cX12_lateRow 27 = .ok (.if_icmp .ne 5, 3) := by decide +kernel
theorem dX12_lateRow_30 : decode cX12_lateRow 30 = .ok (.iload_n 3, 1) := by decide +kernel
theorem dX12_lateRow_31 : decode cX12_lateRow 31 = .ok (.ireturn, 1) := by decide +kernel
theorem dX12_lateRow_32 : decode cX12_lateRow 32 = .ok (.iinc 3 1, 3) := by decide +kernel
theorem dX12_lateRow_35 : decode cX12_lateRow 35 = .ok (.goto (-33), 3) := by decide +kernel
theorem dX12_lateRow_38 : decode cX12_lateRow 38 = .ok (.iconst (-1), 1) := by decide +kernel
theorem dX12_lateRow_39 : decode cX12_lateRow 39 = .ok (.ireturn, 1) := by decide +kernel
set_option maxRecDepth 20000 in
theorem ggX12_begins_X12_lateRow : GoodIn wsX12_begins wsX12_lateRow := goodIn_sub (List.forall_mem_cons.mpr ⟨List.mem_cons_of_mem _ (List.mem_append_left _ (List.mem_of_getElem? (i := 5) rfl)), List.forall_mem_append.mpr ⟨List.forall_mem_cons.mpr ⟨List.mem_cons_of_mem _ (List.mem_append_left _ (List.mem_of_getElem? (i := 6) rfl)), List.forall_mem_cons.mpr ⟨List.mem_cons_of_mem _ (List.mem_append_left _ (List.mem_of_getElem? (i := 7) rfl)), List.forall_mem_cons.mpr ⟨List.mem_cons_of_mem _ (List.mem_append_left _ (List.mem_of_getElem? (i := 8) rfl)), fun _ h => absurd h List.not_mem_nil⟩⟩⟩, tl_X12_begins_X12⟩⟩) (by decide +kernel)
set_option maxRecDepth 20000 in
theorem gX12_begins_X12_lateRow : GoodIn wsX12_begins (wsV RX12 175 RX12 yX12_lateRow wsX12_lateRow) := goodIn_app (goodIn_sub (List.forall_mem_cons.mpr ⟨List.mem_cons_of_mem _ (List.mem_append_left _ (List.mem_of_getElem? (i := 1) rfl)), List.forall_mem_cons.mpr ⟨List.mem_cons_of_mem _ (List.mem_append_left _ (List.mem_of_getElem? (i := 2) rfl)), List.forall_mem_cons.mpr ⟨List.mem_cons_of_mem _ (List.mem_append_left _ (List.mem_of_getElem? (i := 3) rfl)), List.forall_mem_cons.mpr ⟨List.mem_cons_of_mem _ (List.mem_append_left _ (List.mem_of_getElem? (i := 4) rfl)), fun _ h => absurd h List.not_mem_nil⟩⟩⟩⟩) (by decide +kernel)) ggX12_begins_X12_lateRow
set_option maxRecDepth 20000 in
theorem ggX12_begins_X12_plain : GoodIn wsX12_begins wsX12_plain := goodIn_sub (List.forall_mem_cons.mpr ⟨List.mem_cons_of_mem _ (List.mem_append_left _ (List.mem_of_getElem? (i := 11) rfl)), List.forall_mem_cons.mpr ⟨List.mem_cons_of_mem _ (List.mem_append_left _ (List.mem_of_getElem? (i := 12) rfl)), List.forall_mem_cons.mpr ⟨List.mem_cons_of_mem _ (List.mem_append_left _ (List.mem_of_getElem? (i := 13) rfl)), List.forall_mem_cons.mpr ⟨List.mem_cons_of_mem _ (List.mem_append_left _ (List.mem_of_getElem? (i := 4) rfl)), List.forall_mem_cons.mpr ⟨List.mem_cons_of_mem _ (List.mem_append_left _ (List.mem_of_getElem? (i := 14) rfl)), List.forall_mem_cons.mpr ⟨List.mem_cons_of_mem _ (List.mem_append_left _ (List.mem_of_getElem? (i := 15) rfl)), List.forall_mem_cons.mpr ⟨List.mem_cons_of_mem _ (List.mem_append_left _ (List.mem_of_getElem? (i := 16) rfl)), List.forall_mem_cons.mpr ⟨List.mem_cons_of_mem _ (List.mem_append_left _ (List.mem_of_getElem? (i := 17) rfl)), List.forall_mem_cons.mpr ⟨List.mem_cons_of_mem _ (List.mem_append_left _ (List.mem_of_getElem? (i := 18) rfl)), List.forall_mem_cons.mpr ⟨List.mem_cons_of_mem _ (List.mem_append_left _ (List.mem_of_getElem? (i := 19) rfl)), List.forall_mem_cons.mpr ⟨List.mem_cons_of_mem _ (List.mem_append_left _ (List.mem_of_getElem? (i := 20) rfl)), fun _ h => absurd h List.not_mem_nil⟩⟩⟩⟩⟩⟩⟩⟩⟩⟩⟩) (by decide +kernel)
set_option maxRecDepth 20000 in
theorem gX12_begins_X12_plain : GoodIn wsX12_begins (va_wsS RX12 179 yX12_plain wsX12_plain) := goodIn_app (goodIn_sub (List.forall_mem_cons.mpr ⟨List.mem_cons_of_mem _ (List.mem_append_left _ (List.mem_of_getElem? (i := 9) rfl)), List.forall_mem_cons.mpr ⟨List.mem_cons_of_mem _ (List.mem_append_left _ (List.mem_of_getElem? (i := 10) rfl)), List.forall_mem_cons.mpr ⟨List.mem_cons_of_mem _ (List.mem_append_left _ (List.mem_of_getElem? (i := 4) rfl)), fun _ h => absurd h List.not_mem_nil⟩⟩⟩) (by decide +kernel)) ggX12_begins_X12_plain
theorem dX12_begins_0 : decode cX12_begins 0 = .ok (.aload_n 0, 1) := by decide +kernel
theorem dX12_begins_1 : decode cX12_begins 1 = .ok (.iload_n 1, 1) := by decide +kernel
theorem dX12_begins_2 : decode cX12_begins 2 = .ok (.iload_n 2, 1) := by decide +kernel
theorem dX12_begins_3 : decode cX12_begins 3 = .ok (.invokevirtual 175, 3) := by decide +kernel
theorem dX12_begins_6 : decode cX12_begins 6 = .ok (.istore_n 3, 1) := by decide +kernel
theorem dX12_begins_7 : decode cX12_begins 7 = .ok (.iload_n 1, 1) := by decide +kernel
theorem dX12_begins_8 : decode cX12_begins 8 = .ok (.iload_n 2, 1) := by decide +kernel
theorem dX12_begins_9 : decode cX12_begins 9 = .ok (.invokestatic 179, 3) := by decide +kernel
theorem dX12_begins_12 : decode cX12_begins 12 = .ok (.iload_n 3, 1) := by decide +kernel
theorem dX12_begins_13 : decode cX12_begins 13 = .ok (.iconst (-1), 1) := by decide +kernel
theorem dX12_begins_14 : decode cX12_begins 14 = .ok (.if_icmp .ne 7, 3) := by decide +kernel
theorem dX12_begins_17 : decode cX12_begins 17 = .ok (.iconst 0, 1) := by decide +kernel
theorem dX12_begins_18 : decode cX12_begins 18 = .ok (.goto 9, 3) := by decide +kernel
theorem dX12_begins_21 : decode cX12_begins 21 = .ok (.aload_n 0, 1) := by decide +kernel
theorem dX12_begins_22 : decode cX12_begins 22 = .ok (.getfield 74, 3) := by decide +kernel
theorem dX12_begins_25 : decode cX12_begins 25 = .ok (.iload_n 3, 1) := by decide +kernel
theorem dX12_begins_26 : decode cX12_begins 26 = .ok (.iaload, 1) := by decide +kernel
theorem dX12_begins_27 : decode cX12_begins 27 = .ok (.iadd, 1) := by decide +kernel
theorem dX12_begins_28 : decode cX12_begins 28 = .ok (.ireturn, 1) := by decide +kernel
set_option maxRecDepth 20000 in
theorem ggX12_office_X12_isDay : GoodIn wsX12_office wsX12_isDay := goodIn_sub (List.forall_mem_cons.mpr ⟨mc_X12_office_r1 _ (List.mem_of_getElem? (i := 3) rfl), List.forall_mem_cons.mpr ⟨mc_X12_office_r1 _ (List.mem_of_getElem? (i := 4) rfl), List.forall_mem_cons.mpr ⟨mc_X12_office_r1 _ (List.mem_of_getElem? (i := 5) rfl), List.forall_mem_cons.mpr ⟨mc_X12_office_r1 _ (List.mem_of_getElem? (i := 2) rfl), List.forall_mem_cons.mpr ⟨mc_X12_office_r1 _ (List.mem_of_getElem? (i := 6) rfl), fun _ h => absurd h List.not_mem_nil⟩⟩⟩⟩⟩) (by decide +kernel)
set_option maxRecDepth 20000 in
theorem gX12_office_X12_isDay : GoodIn wsX12_office (va_wsS RX12 147 yX12_isDay wsX12_isDay) := goodIn_app (goodIn_sub (List.forall_mem_cons.mpr ⟨mc_X12_office_r1 _ (List.mem_of_getElem? (i := 0) rfl), List.forall_mem_cons.mpr ⟨mc_X12_office_r1 _ (List.mem_of_getElem? (i := 1) rfl), List.forall_mem_cons.mpr ⟨mc_X12_office_r1 _ (List.mem_of_getElem? (i := 2) rfl), fun _ h => absurd h List.not_mem_nil⟩⟩⟩) (by decide +kernel)) ggX12_office_X12_isDay
set_option maxRecDepth 20000 in
theorem ggX12_office_X12_isIn : GoodIn wsX12_office wsX12_isIn := goodIn_sub (List.forall_mem_cons.mpr ⟨mc_X12_office_r1 _ (List.mem_of_getElem? (i := 6) rfl), fun _ h => absurd h List.not_mem_nil⟩) (by decide +kernel)
set_option maxRecDepth 20000 in
theorem gX12_office_X12_isIn : GoodIn wsX12_office (va_wsS RX12 130 yX12_isIn wsX12_isIn) := goodIn_app (goodIn_sub (List.forall_mem_cons.mpr ⟨mc_X12_office_r1 _ (List.mem_of_getElem? (i := 4) rfl), List.forall_mem_cons.mpr ⟨mc_X12_office_r1 _ (List.mem_of_getElem? (i := 5) rfl), List.forall_mem_cons.mpr ⟨mc_X12_office_r1 _ (List.mem_of_getElem? (i := 2) rfl), fun _ h => absurd h List.not_mem_nil⟩⟩⟩) (by decide +kernel)) ggX12_office_X12_isIn
set_option maxRecDepth 20000 in
theorem ggX12_office_X12_begins : GoodIn wsX12_office wsX12_begins := goodIn_sub (List.forall_mem_cons.mpr ⟨mc_X12_office_r1 _ (List.mem_of_getElem? (i := 10) rfl), List.forall_mem_append.mpr ⟨List.forall_mem_cons.mpr ⟨mc_X12_office_r1 _ (List.mem_of_getElem? (i := 11) rfl), List.forall_mem_cons.mpr ⟨mc_X12_office_r1 _ (List.mem_of_getElem? (i := 12) rfl), List.forall_mem_cons.mpr ⟨mc_X12_office_r1 _ (List.mem_of_getElem? (i := 13) rfl), List.forall_mem_cons.mpr ⟨mc_X12_office_r1 _ (List.mem_of_getElem? (i := 14) rfl), List.forall_mem_cons.mpr ⟨mc_X12_office_r1 _ (List.mem_of_getElem? (i := 2) rfl), List.forall_mem_cons.mpr ⟨mc_X12_office_r1 _ (List.mem_of_getElem? (i := 15) rfl), List.forall_mem_cons.mpr ⟨mc_X12_office_r1 _ (List.mem_of_getElem? (i := 16) rfl), List.forall_mem_cons.mpr ⟨mc_X12_office_r1 _ (List.mem_of_getElem? (i := 17) rfl), List.forall_mem_cons.mpr ⟨mc_X12_office_r1 _ (List.mem_of_getElem? (i := 18) rfl), List.forall_mem_cons.mpr ⟨mc_X12_office_r1 _ (List.mem_of_getElem? (i := 19) rfl), List.forall_mem_cons.mpr ⟨mc_X12_office_r1 _ (List.mem_of_getElem? (i := 20) rfl), List.forall_mem_cons.mpr ⟨mc_X12_office_r1 _ (List.mem_of_getElem? (i := 21) rfl), List.forall_mem_cons.mpr ⟨mc_X12_office_r1 _ (List.mem_of_getElem? (i := 22) rfl), List.forall_mem_cons.mpr ⟨mc_X12_office_r1 _ (List.mem_of_getElem? (i := 23) rfl), List.forall_mem_cons.mpr ⟨mc_X12_office_r2 _ (List.mem_of_getElem? (i := 0) rfl), List.forall_mem_cons.mpr ⟨mc_X12_office_r2 _ (List.mem_of_getElem? (i := 1) rfl), List.forall_mem_cons.mpr ⟨mc_X12_office_r2 _ (List.mem_of_getElem? (i := 2) rfl), List.forall_mem_cons.mpr ⟨mc_X12_office_r2 _ (List.mem_of_getElem? (i := 3) rfl), List.forall_mem_cons.mpr ⟨mc_X12_office_r2 _ (List.mem_of_getElem? (i := 4) rfl), List.forall_mem_cons.mpr ⟨mc_X12_office_r2 _ (List.mem_of_getElem? (i := 5) rfl), List.forall_mem_cons.mpr ⟨mc_X12_office_r2 _ (List.mem_of_getElem? (i := 6) rfl), fun _ h => absurd h List.not_mem_nil⟩⟩⟩⟩⟩⟩⟩⟩⟩⟩⟩⟩⟩⟩⟩⟩⟩⟩⟩⟩⟩, tl_X12_office_X12⟩⟩) (by decide +kernel)
set_option maxRecDepth 20000 in
theorem gX12_office_X12_begins : GoodIn wsX12_office (wsV RX12 182 RX12 yX12_begins wsX12_begins) := goodIn_app (goodIn_sub (List.forall_mem_cons.mpr ⟨mc_X12_office_r1 _ (List.mem_of_getElem? (i := 7) rfl), List.forall_mem_cons.mpr ⟨mc_X12_office_r1 _ (List.mem_of_getElem? (i := 8) rfl), List.forall_mem_cons.mpr ⟨mc_X12_office_r1 _ (List.mem_of_getElem? (i := 9) rfl), List.forall_mem_cons.mpr ⟨mc_X12_office_r1 _ (List.mem_of_getElem? (i := 2) rfl), fun _ h => absurd h List.not_mem_nil⟩⟩⟩⟩) (by decide +kernel)) ggX12_office_X12_begins
theorem dX12_office_0 : decode cX12_office 0 = .ok (.iload_n 1, 1) := by decide +kernel
theorem dX12_office_1 : decode cX12_office 1 = .ok (.invokestatic 147, 3) := by decide +kernel
theorem dX12_office_4 : decode cX12_office 4 = .ok (.ifCond .eq 22, 3) := by decide +kernel
theorem dX12_office_7 : decode cX12_office 7 = .ok (.iload_n 2, 1) := by decide +kernel
theorem dX12_office_8 : decode cX12_office 8 = .ok (.iconst 0, 1) := by decide +kernel
theorem dX12_office_9 : decode cX12_office 9 = .ok (.bipush 7, 2) := by decide +kernel
theorem dX12_office_11 : decode cX12_office 11 = .ok (.invokestatic 130, 3) := by decide +kernel
theorem dX12_office_14 : decode cX12_office 14 = .ok (.ifCond .eq 12, 3) := by decide +kernel
theorem dX12_office_17 : decode cX12_office 17 = .ok (.aload_n 0, 1) := by decide +kernel
theorem dX12_office_18 : decode cX12_office 18 = .ok (.iload_n 1, 1) := by decide +kernel
theorem dX12_office_19 : decode cX12_office 19 = .ok (.iload_n 2, 1) := by decide +kernel
theorem dX12_office_20 : decode cX12_office 20 = .ok (.invokevirtual 182, 3) := by decide +kernel
theorem dX12_office_23 : decode cX12_office 23 = .ok (.goto 4, 3) := by decide +kernel
theorem dX12_office_26 : decode cX12_office 26 = .ok (.iconst (-1), 1) := by decide +kernel
theorem dX12_office_27 : decode cX12_office 27 = .ok (.ireturn, 1) := by decide +kernel
set_option maxRecDepth 20000 in
theorem ggX12_late_X12_isIn : GoodIn wsX12_late wsX12_isIn := goodIn_sub (List.forall_mem_cons.mpr ⟨mc_X12_late_r1 _ (List.mem_of_getElem? (i := 8) rfl), fun _ h => absurd h List.not_mem_nil⟩) (by decide +kernel)
set_option maxRecDepth 20000 in
theorem gX12_late_X12_isIn : GoodIn wsX12_late (va_wsS RX12 130 yX12_isIn wsX12_isIn) := goodIn_app (goodIn_sub (List.forall_mem_cons.mpr ⟨mc_X12_late_r1 _ (List.mem_of_getElem? (i := 5) rfl), List.forall_mem_cons.mpr ⟨mc_X12_late_r1 _ (List.mem_of_getElem? (i := 6) rfl), List.forall_mem_cons.mpr ⟨mc_X12_late_r1 _ (List.mem_of_getElem? (i := 7) rfl), fun _ h => absurd h List.not_mem_nil⟩⟩⟩) (by decide +kernel)) ggX12_late_X12_isIn
set_option maxRecDepth 20000 in
theorem ggX12_late_X12_plain : GoodIn wsX12_late wsX12_plain := goodIn_sub (List.forall_mem_cons.mpr ⟨mc_X12_late_r1 _ (List.mem_of_getElem? (i := 11) rfl), List.forall_mem_cons.mpr ⟨mc_X12_late_r1 _ (List.mem_of_getElem? (i := 12) rfl), List.forall_mem_cons.mpr ⟨mc_X12_late_r1 _ (List.mem_of_getElem? (i := 13) rfl), List.forall_mem_cons.mpr ⟨mc_X12_late_r1 _ (List.mem_of_getElem? (i := 7) rfl), List.forall_mem_cons.mpr ⟨mc_X12_late_r1 _ (List.mem_of_getElem? (i := 14) rfl), List.forall_mem_cons.mpr ⟨mc_X12_late_r1 _ (List.mem_of_getElem? (i := 15) rfl), List.forall_mem_cons.mpr ⟨mc_X12_late_r1 _ (List.mem_of_getElem? (i := 16) rfl), List.forall_mem_cons.mpr ⟨mc_X12_late_r1 _ (List.mem_of_getElem? (i := 17) rfl), List.forall_mem_cons.mpr ⟨mc_X12_late_r1 _ (List.mem_of_getElem? (i := 18) rfl), List.forall_mem_cons.mpr ⟨mc_X12_late_r1 _ (List.mem_of_getElem? (i := 19) rfl), List.forall_mem_cons.mpr ⟨mc_X12_late_r1 _ (List.mem_of_getElem? (i := 20) rfl), fun _ h => absurd h List.not_mem_nil⟩⟩⟩⟩⟩⟩⟩⟩⟩⟩⟩) (by decide +kernel)
set_option maxRecDepth 20000 in
theorem gX12_late_X12_plain : GoodIn wsX12_late (va_wsS RX12 179 yX12_plain wsX12_plain) := goodIn_app (goodIn_sub (List.forall_mem_cons.mpr ⟨mc_X12_late_r1 _ (List.mem_of_getElem? (i := 9) rfl), List.forall_mem_cons.mpr ⟨mc_X12_late_r1 _ (List.mem_of_getElem? (i := 10) rfl), List.forall_mem_cons.mpr ⟨mc_X12_late_r1 _ (List.mem_of_getElem? (i := 7) rfl), fun _ h => absurd h List.not_mem_nil⟩⟩⟩) (by decide +kernel)) ggX12_late_X12_plain
set_option maxRecDepth 20000 in
theorem ggX12_late_X12_begins : GoodIn wsX12_late wsX12_begins := goodIn_sub (List.forall_mem_cons.mpr ⟨mc_X12_late_r2 _ (List.mem_of_getElem? (i := 0) rfl), List.forall_mem_append.mpr ⟨List.forall_mem_cons.mpr ⟨mc_X12_late_r1 _ (List.mem_of_getElem? (i := 4) rfl), List.forall_mem_cons.mpr ⟨mc_X12_late_r2 _ (List.mem_of_getElem? (i := 1) rfl), List.forall_mem_cons.mpr ⟨mc_X12_late_r2 _ (List.mem_of_getElem? (i := 2) rfl), List.forall_mem_cons.mpr ⟨mc_X12_late_r2 _ (List.mem_of_getElem? (i := 3) rfl), List.forall_mem_cons.mpr ⟨mc_X12_late_r1 _ (List.mem_of_getElem? (i := 7) rfl), List.forall_mem_cons.mpr ⟨mc_X12_late_r2 _ (List.mem_of_getElem? (i := 4) rfl), List.forall_mem_cons.mpr ⟨mc_X12_late_r1 _ (List.mem_of_getElem? (i := 1) rfl), List.forall_mem_cons.mpr ⟨mc_X12_late_r1 _ (List.mem_of_getElem? (i := 2) rfl), List.forall_mem_cons.mpr ⟨mc_X12_late_r1 _ (List.mem_of_getElem? (i := 3) rfl), List.forall_mem_cons.mpr ⟨mc_X12_late_r1 _ (List.mem_of_getElem? (i := 9) rfl), List.forall_mem_cons.mpr ⟨mc_X12_late_r1 _ (List.mem_of_getElem? (i := 10) rfl), List.forall_mem_cons.mpr ⟨mc_X12_late_r1 _ (List.mem_of_getElem? (i := 11) rfl), List.forall_mem_cons.mpr ⟨mc_X12_late_r1 _ (List.mem_of_getElem? (i := 12) rfl), List.forall_mem_cons.mpr ⟨mc_X12_late_r1 _ (List.mem_of_getElem? (i := 13) rfl), List.forall_mem_cons.mpr ⟨mc_X12_late_r1 _ (List.mem_of_getElem? (i := 14) rfl), List.forall_mem_cons.mpr ⟨mc_X12_late_r1 _ (List.mem_of_getElem? (i := 15) rfl), List.forall_mem_cons.mpr ⟨mc_X12_late_r1 _ (List.mem_of_getElem? (i := 16) rfl), List.forall_mem_cons.mpr ⟨mc_X12_late_r1 _ (List.mem_of_getElem? (i := 17) rfl), List.forall_mem_cons.mpr ⟨mc_X12_late_r1 _ (List.mem_of_getElem? (i := 18) rfl), List.forall_mem_cons.mpr ⟨mc_X12_late_r1 _ (List.mem_of_getElem? (i := 19) rfl), List.forall_mem_cons.mpr ⟨mc_X12_late_r1 _ (List.mem_of_getElem? (i := 20) rfl), fun _ h => absurd h List.not_mem_nil⟩⟩⟩⟩⟩⟩⟩⟩⟩⟩⟩⟩⟩⟩⟩⟩⟩⟩⟩⟩⟩, tl_X12_late_X12⟩⟩) (by decide +kernel)
set_option maxRecDepth 20000 in
theorem gX12_late_X12_begins : GoodIn wsX12_late (wsV RX12 182 RX12 yX12_begins wsX12_begins) := goodIn_app (goodIn_sub (List.forall_mem_cons.mpr ⟨mc_X12_late_r1 _ (List.mem_of_getElem? (i := 21) rfl), List.forall_mem_cons.mpr ⟨mc_X12_late_r1 _ (List.mem_of_getElem? (i := 22) rfl), List.forall_mem_cons.mpr ⟨mc_X12_late_r1 _ (List.mem_of_getElem? (i := 23) rfl), List.forall_mem_cons.mpr ⟨mc_X12_late_r1 _ (List.mem_of_getElem? (i := 7) rfl), fun _ h => absurd h List.not_mem_nil⟩⟩⟩⟩) (by decide +kernel)) ggX12_late_X12_begins
set_option maxRecDepth 20000 in
theorem ggX12_late_X12_lateRow : GoodIn wsX12_late wsX12_lateRow := goodIn_sub (List.forall_mem_cons.mpr ⟨mc_X12_late_r2 _ (List.mem_of_getElem? (i := 4) rfl), List.forall_mem_append.mpr ⟨List.forall_mem_cons.mpr ⟨mc_X12_late_r1 _ (List.mem_of_getElem? (i := 1) rfl), List.forall_mem_cons.mpr ⟨mc_X12_late_r1 _ (List.mem_of_getElem? (i := 2) rfl), List.forall_mem_cons.mpr ⟨mc_X12_late_r1 _ (List.mem_of_getElem? (i := 3) rfl), fun _ h => absurd h List.not_mem_nil⟩⟩⟩, tl_X12_late_X12⟩⟩) (by decide +kernel)
set_option maxRecDepth 20000 in
theorem gX12_late_X12_lateRow : GoodIn wsX12_late (wsV RX12 175 RX12 yX12_lateRow wsX12_lateRow) := goodIn_app (goodIn_sub (List.forall_mem_cons.mpr ⟨mc_X12_late_r2 _ (List.mem_of_getElem? (i := 1) rfl), List.forall_mem_cons.mpr ⟨mc_X12_late_r2 _ (List.mem_of_getElem? (i := 2) rfl), List.forall_mem_cons.mpr ⟨mc_X12_late_r2 _ (List.mem_of_getElem? (i := 3) rfl), List.forall_mem_cons.mpr ⟨mc_X12_late_r1 _ (List.mem_of_getElem? (i := 7) rfl), fun _ h => absurd h List.not_mem_nil⟩⟩⟩⟩) (by decide +kernel)) ggX12_late_X12_lateRow
theorem dX12_late_0 : decode cX12_late 0 = .ok (.iload_n 1, 1) := by decide +kernel
theorem dX12_late_1 : decode cX12_late 1 = .ok (.aload_n 0, 1) := by decide +kernel
theorem dX12_late_2 : decode cX12_late 2 = .ok (.getfield 140, 3) := by decide +kernel
theorem dX12_late_5 : decode cX12_late 5 = .ok (.sipush 1094, 3) := by decide +kernel
theorem dX12_late_8 : decode cX12_late 8 = .ok (.invokestatic 130, 3) := by decide +kernel
theorem dX12_late_11 : decode cX12_late 11 = .ok (.ifCond .eq 23, 3) := by decide +kernel
theorem dX12_late_14 : decode cX12_late 14 = .ok (.iload_n 2, 1) := by decide +kernel
theorem dX12_late_15 : decode cX12_late 15 = .ok (.iconst 0, 1) := by decide +kernel
theorem dX12_late_16 : decode cX12_late 16 = .ok (.bipush 7, 2) := by decide +kernel
theorem dX12_late_18 : decode cX12_late 18 = .ok (.invokestatic 130, 3) := by decide +kernel
theorem dX12_late_21 : decode cX12_late 21 = .ok (.ifCond .eq 13, 3) := by decide +kernel
theorem dX12_late_24 : decode cX12_late 24 = .ok (.iload_n 3, 1) := by decide +kernel
theorem dX12_late_25 : decode cX12_late 25 = .ok (.iconst 1, 1) := by decide +kernel
theorem dX12_late_26 : decode cX12_late 26 = .ok (.bipush 120, 2) := by decide +kernel
theorem dX12_late_28 : decode cX12_late 28 = .ok (.invokestatic 130, 3) := by decide +kernel
theorem dX12_late_31 : decode cX12_late 31 = .ok (.ifCond .ne 5, 3) := by decide +kernel
theorem dX12_late_34 : decode cX12_late 34 = .ok (.iconst (-1), 1) := by decide +kernel
theorem dX12_late_35 : decode cX12_late 35 = .ok (.ireturn, 1) := by decide +kernel
theorem dX12_late_36 : decode cX12_late 36 = .ok (.iload_n 1, 1) := by decide +kernel
theorem dX12_late_37 : decode cX12_late 37 = .ok (.iload_n 2, 1) := by decide +kernel
theorem dX12_late_38 : decode cX12_late 38 = .ok (.invokestatic 179, 3) := by decide +kernel
theorem dX12_late_41 : decode cX12_late 41 = .ok (.iload_n 3, 1) := by decide +kernel
theorem dX12_late_42 : decode cX12_late 42 = .ok (.iadd, 1) := by decide +kernel
theorem dX12_late_43 : decode cX12_late 43 = .ok (.istore 4, 2) := by decide +kernel
theorem dX12_late_45 : decode cX12_late 45 = .ok (.iload_n 2, 1) := by decide +kernel
theorem dX12_late_46 : decode cX12_late 46 = .ok (.bipush 7, 2) := by decide +kernel
theorem dX12_late_48 : decode cX12_late 48 = .ok (.if_icmp .ne 9, 3) := by decide +kernel
theorem dX12_late_51 : decode cX12_late 51 = .ok (.sipush 1410, 3) := by decide +kernel
theorem dX12_late_54 : decode cX12_late 54 = .ok (.goto 11, 3) := by decide +kernel
theorem dX12_late_57 : decode cX12_late 57 = .ok (.aload_n 0, 1) := by decide +kernel
theorem dX12_late_58 : decode cX12_late 58 = .ok (.iload_n 1, 1) := by decide +kernel
theorem dX12_late_59 : decode cX12_late 59 = .ok (.iload_n 2, 1) := by decide +kernel
theorem dX12_late_60 : decode cX12_late 60 = .ok (.iconst 1, 1) := by decide +kernel
theorem dX12_late_61 : decode cX12_late 61 = .ok (.iadd, 1) := by decide +kernel
theorem dX12_late_62 : decode cX12_late 62 = .ok (.invokevirtual 182, 3) := by decide +kernel
theorem dX12_late_65 : decode cX12_late 65 = .ok (.istore 5, 2) := by decide +kernel
theorem dX12_late_67 : decode cX12_late 67 = .ok (.iload 4, 2) := by decide +kernel
theorem dX12_late_69 : decode cX12_late 69 = .ok (.iload 5, 2) := by decide +kernel
theorem dX12_late_71 : decode cX12_late 71 = .ok (.if_icmp .ge 20, 3) := by decide +kernel
theorem dX12_late_74 : decode cX12_late 74 = .ok (.iload_n 2, 1) := by decide +kernel
theorem dX12_late_75 : decode cX12_late 75 = .ok (.ifCond .le 18, 3) := by decide +kernel
theorem dX12_late_78 : decode cX12_late 78 = .ok (.iload 4, 2) := by decide +kernel
theorem dX12_late_80 : decode cX12_late 80 = .ok (.aload_n 0, 1) := by decide +kernel
theorem dX12_late_81 : decode cX12_late 81 = .ok (.iload_n 1, 1) := by decide +kernel
theorem dX12_late_82 : decode cX12_late 82 = .ok (.iload_n 2, 1) := by decide +kernel
theorem dX12_late_83 : decode cX12_late 83 = .ok (.iconst 1, 1) := by decide +kernel
theorem dX12_late_84 : decode cX12_late 84 = .ok (.isub, 1) := by decide +kernel
theorem dX12_late_85 : decode cX12_late 85 = .ok (.invokevirtual 182, 3) := by decide +kernel
theorem dX12_late_88 : decode cX12_late 88 = .ok (.if_icmp .gt 5, 3) := by decide +kernel
theorem dX12_late_91 : decode cX12_late 91 = .ok (.iconst (-1), 1) := by decide +kernel
theorem dX12_late_92 : decode cX12_late 92 = .ok (.ireturn, 1) := by decide +kernel
theorem dX12_late_93 : decode cX12_late 93 = .ok (.aload_n 0, 1) := by decide +kernel
theorem dX12_late_94 : decode cX12_late 94 = .ok (.iload_n 1, 1) := by decide +kernel
theorem dX12_late_95 : decode cX12_late 95 = .ok (.iload_n 2, 1) := by decide +kernel
theorem dX12_late_96 : decode cX12_late 96 = .ok (.invokevirtual 175, 3) := by decide +kernel
theorem dX12_late_99 : decode cX12_late 99 = .ok (.istore 6, 2) := by decide +kernel
theorem dX12_late_101 : decode cX12_late 101 = .ok (.iload 6, 2) := by decide +kernel
theorem dX12_late_103 : decode cX12_late 103 = .ok (.iconst (-1), 1) := by decide +kernel
theorem dX12_late_104 : decode cX12_late 104 = .ok (.if_icmp .ne 30, 3) := by decide +kernel
theorem dX12_late_107 : decode cX12_late 107 = .ok (.aload_n 0, 1) := by decide +kernel
theorem dX12_late_108 : decode cX12_late 108 = .ok (.getfield 172, 3) := by decide +kernel
theorem dX12_late_111 : decode cX12_late 111 = .ok (.bipush 100, 2) := by decide +kernel
theorem dX12_late_113 : decode cX12_late 113 = .ok (.if_icmp .ne 5, 3) := by decide +kernel
theorem dX12_late_116 : decode cX12_late 116 = .ok (.iconst (-1), 1) := by decide +kernel
theorem dX12_late_117 : decode cX12_late 117 = .ok (.ireturn, 1) := by decide +kernel
theorem dX12_late_118 : decode cX12_late 118 = .ok (.aload_n 0, 1) := by decide +kernel
theorem dX12_late_119 : decode cX12_late 119 = .ok (.getfield 172, 3) := by decide +kernel
theorem dX12_late_122 : decode cX12_late 122 = .ok (.istore 6, 2) := by decide +kernel
theorem dX12_late_124 : decode cX12_late 124 = .ok (.aload_n 0, 1) := by decide +kernel
theorem dX12_late_125 : decode cX12_late 125 = .ok (.dup, 1) := by decide +kernel
theorem dX12_late_126 : decode cX12_late 126 = .ok (.getfield 172, 3) := by decide +kernel
theorem dX12_late_129 : decode cX12_late 129 = .ok (.iconst 1, 1) := by decide +kernel
theorem dX12_late_130 : decode cX12_late 130 = .ok (.iadd, 1) := by decide +kernel
theorem dX12_late_131 : decode cX12_late 131 = .ok (.putfield 172, 3) := by decide +kernel
theorem dX12_late_134 : decode cX12_late 134 = .ok (.aload_n 0, 1) := by decide +kernel
theorem dX12_late_135 : decode cX12_late 135 = .ok (.getfield 68, 3) := by decide +kernel
theorem dX12_late_138 : decode cX12_late 138 = .ok (.iload 6, 2) := by decide +kernel
theorem dX12_late_140 : decode cX12_late 140 = .ok (.iload_n 1, 1) := by decide +kernel
theorem dX12_late_141 : decode cX12_late 141 = .ok (.iastore, 1) := by decide +kernel
theorem dX12_late_142 : decode cX12_late 142 = .ok (.aload_n 0, 1) := by decide +kernel
theorem dX12_late_143 : decode cX12_late 143 = .ok (.getfield 71, 3) := by decide +kernel
theorem dX12_late_146 : decode cX12_late 146 = .ok (.iload 6, 2) := by decide +kernel
theorem dX12_late_148 : decode cX12_late 148 = .ok (.iload_n 2, 1) := by decide +kernel
theorem dX12_late_149 : decode cX12_late 149 = .ok (.iastore, 1) := by decide +kernel
theorem dX12_late_150 : decode cX12_late 150 = .ok (.aload_n 0, 1) := by decide +kernel
theorem dX12_late_151 : decode cX12_late 151 = .ok (.getfield 74, 3) := by decide +kernel
theorem dX12_late_154 : decode cX12_late 154 = .ok (.iload 6, 2) := by decide +kernel
theorem dX12_late_156 : decode cX12_late 156 = .ok (.iload_n 3, 1) := by decide +kernel
theorem dX12_late_157 : decode cX12_late 157 = .ok (.iastore, 1) := by decide +kernel
theorem dX12_late_158 : decode cX12_late 158 = .ok (.iload 4, 2) := by decide +kernel
theorem dX12_late_160 : decode cX12_late 160 = .ok (.ireturn, 1) := by decide +kernel
set_option maxRecDepth 20000 in
theorem ggX12_feed_X12_four : GoodIn wsX12_feed wsX12_four := goodIn_sub (List.forall_mem_cons.mpr ⟨List.mem_cons_of_mem _ (List.mem_append_left _ (List.mem_of_getElem? (i := 5) rfl)), List.forall_mem_append.mpr ⟨List.forall_mem_cons.mpr ⟨List.mem_cons_of_mem _ (List.mem_append_left _ (List.mem_of_getElem? (i := 6) rfl)), List.forall_mem_cons.mpr ⟨List.mem_cons_of_mem _ (List.mem_append_left _ (List.mem_of_getElem? (i := 0) rfl)), fun _ h => absurd h List.not_mem_nil⟩⟩, tl_X12_feed_X12⟩⟩) (by decide +kernel)
set_option maxRecDepth 20000 in
theorem gX12_feed_X12_four : GoodIn wsX12_feed (wsV RX12 188 RX12 yX12_four wsX12_four) := goodIn_app (goodIn_sub (List.forall_mem_cons.mpr ⟨List.mem_cons_of_mem _ (List.mem_append_left _ (List.mem_of_getElem? (i := 1) rfl)), List.forall_mem_cons.mpr ⟨List.mem_cons_of_mem _ (List.mem_append_left _ (List.mem_of_getElem? (i := 2) rfl)), List.forall_mem_cons.mpr ⟨List.mem_cons_of_mem _ (List.mem_append_left _ (List.mem_of_getElem? (i := 3) rfl)), List.forall_mem_cons.mpr ⟨List.mem_cons_of_mem _ (List.mem_append_left _ (List.mem_of_getElem? (i := 4) rfl)), fun _ h => absurd h List.not_mem_nil⟩⟩⟩⟩) (by decide +kernel)) ggX12_feed_X12_four
theorem dX12_feed_0 : decode cX12_feed 0 = .ok (.aload_n 0, 1) := by decide +kernel
theorem dX12_feed_1 : decode cX12_feed 1 = .ok (.getfield 185, 3) := by decide +kernel
theorem dX12_feed_4 : decode cX12_feed 4 = .ok (.bipush 20, 2) := by decide +kernel
theorem dX12_feed_6 : decode cX12_feed 6 = .ok (.iadd, 1) := by decide +kernel
theorem dX12_feed_7 : decode cX12_feed 7 = .ok (.sipush 600, 3) := by decide +kernel
theorem dX12_feed_10 : decode cX12_feed 10 = .ok (.if_icmp .le 5, 3) := by decide +kernel
theorem dX12_feed_13 : decode cX12_feed 13 = .ok (.iconst (-1), 1) := by decide +kernel
theorem dX12_feed_14 : decode cX12_feed 14 = .ok (.ireturn, 1) := by decide +kernel
theorem dX12_feed_15 : decode cX12_feed 15 = .ok (.aload_n 0, 1) := by decide +kernel
theorem dX12_feed_16 : decode cX12_feed 16 = .ok (.iload_n 1, 1) := by decide +kernel
theorem dX12_feed_17 : decode cX12_feed 17 = .ok (.invokevirtual 188, 3) := by decide +kernel
theorem dX12_feed_20 : decode cX12_feed 20 = .ok (.aload_n 0, 1) := by decide +kernel
theorem dX12_feed_21 : decode cX12_feed 21 = .ok (.iload_n 2, 1) := by decide +kernel
theorem dX12_feed_22 : decode cX12_feed 22 = .ok (.invokevirtual 188, 3) := by decide +kernel
theorem dX12_feed_25 : decode cX12_feed 25 = .ok (.aload_n 0, 1) := by decide +kernel
theorem dX12_feed_26 : decode cX12_feed 26 = .ok (.iload_n 3, 1) := by decide +kernel
theorem dX12_feed_27 : decode cX12_feed 27 = .ok (.invokevirtual 188, 3) := by decide +kernel
theorem dX12_feed_30 : decode cX12_feed 30 = .ok (.aload_n 0, 1) := by decide +kernel
theorem dX12_feed_31 : decode cX12_feed 31 = .ok (.iload 4, 2) := by decide +kernel
theorem dX12_feed_33 : decode cX12_feed 33 = .ok (.invokevirtual 188, 3) := by decide +kernel
theorem dX12_feed_36 : decode cX12_feed 36 = .ok (.aload_n 0, 1) := by decide +kernel
theorem dX12_feed_37 : decode cX12_feed 37 = .ok (.iload 5, 2) := by decide +kernel
theorem dX12_feed_39 : decode cX12_feed 39 = .ok (.invokevirtual 188, 3) := by decide +kernel
theorem dX12_feed_42 : decode cX12_feed 42 = .ok (.aload_n 0, 1) := by decide +kernel
theorem dX12_feed_43 : decode cX12_feed 43 = .ok (.getfield 185, 3) := by decide +kernel
theorem dX12_feed_46 : decode cX12_feed 46 = .ok (.ireturn, 1) := by decide +kernel
theorem dX12_four_0 : decode cX12_four 0 = .ok (.bipush 24, 2) := by decide +kernel
theorem dX12_four_2 : decode cX12_four 2 = .ok (.istore_n 2, 1) := by decide +kernel
theorem dX12_four_3 : decode cX12_four 3 = .ok (.iload_n 2, 1) := by decide +kernel
theorem dX12_four_4 : decode cX12_four 4 = .ok (.ifCond .lt 32, 3) := by decide +kernel
theorem dX12_four_7 : decode cX12_four 7 = .ok (.aload_n 0, 1) := by decide +kernel
theorem dX12_four_8 : decode cX12_four 8 = .ok (.getfield 104, 3) := by decide +kernel
theorem dX12_four_11 : decode cX12_four 11 = .ok (.aload_n 0, 1) := by decide +kernel
theorem dX12_four_12 : decode cX12_four 12 = .ok (.getfield 185, 3) := by decide +kernel

