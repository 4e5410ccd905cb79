/-! each callee's words lie in the law's list -/
set_option maxRecDepth 20000 in
theorem gd_wsX6_init_r1 : GoodIn wsL_law wsX6_init_r1 := (gi_c gw_11 (gi_c gw_12 (gi_c gw_13 (gi_c gw_14 (gi_c gw_15 (gi_c gw_16 (gi_c gw_17 (gi_c gw_18 (gi_c gw_19 (gi_c gw_20 (gi_c gw_21 (gi_c gw_22 (gi_c gw_23 (gi_c gw_24 (gi_c gw_25 (gi_c gw_26 (gi_c gw_27 (gi_c gw_28 (gi_c gw_29 (gi_c gw_30 (gi_c gw_31 (gi_c gw_32 (gi_c gw_33 (gi_c gw_34 gi_nil))))))))))))))))))))))))
set_option maxRecDepth 20000 in
theorem gd_wsX6_init_r2 : GoodIn wsL_law wsX6_init_r2 := (gi_c gw_35 (gi_c gw_36 (gi_c gw_37 (gi_c gw_38 (gi_c gw_39 (gi_c gw_40 (gi_c gw_41 (gi_c gw_42 (gi_c gw_43 (gi_c gw_44 (gi_c gw_45 (gi_c gw_46 (gi_c gw_47 (gi_c gw_48 (gi_c gw_49 (gi_c gw_50 (gi_c gw_51 (gi_c gw_52 (gi_c gw_53 (gi_c gw_54 (gi_c gw_55 (gi_c gw_56 (gi_c gw_57 (gi_c gw_58 gi_nil))))))))))))))))))))))))
set_option maxRecDepth 20000 in
theorem gd_wsX6_init_r3 : GoodIn wsL_law wsX6_init_r3 := (gi_c gw_59 (gi_c gw_60 (gi_c gw_61 (gi_c gw_62 (gi_c gw_63 (gi_c gw_64 (gi_c gw_65 (gi_c gw_66 (gi_c gw_67 (gi_c gw_68 (gi_c gw_69 (gi_c gw_70 (gi_c gw_71 (gi_c gw_72 (gi_c gw_73 (gi_c gw_74 (gi_c gw_75 (gi_c gw_76 (gi_c gw_77 (gi_c gw_78 (gi_c gw_79 (gi_c gw_80 (gi_c gw_81 (gi_c gw_82 gi_nil))))))))))))))))))))))))
set_option maxRecDepth 20000 in
theorem gd_wsX6_init_r4 : GoodIn wsL_law wsX6_init_r4 := (gi_c gw_83 (gi_c gw_84 (gi_c gw_85 (gi_c gw_86 (gi_c gw_87 (gi_c gw_88 (gi_c gw_89 (gi_c gw_90 (gi_c gw_91 (gi_c gw_92 (gi_c gw_93 (gi_c gw_94 (gi_c gw_95 (gi_c gw_96 (gi_c gw_97 (gi_c gw_98 (gi_c gw_99 (gi_c gw_100 (gi_c gw_101 (gi_c gw_102 (gi_c gw_103 (gi_c gw_104 (gi_c gw_105 (gi_c gw_106 gi_nil))))))))))))))))))))))))
set_option maxRecDepth 20000 in
theorem gd_wsX6_init : GoodIn wsL_law wsX6_init := (gi_c gw_10 (goodIn_app (goodIn_app (goodIn_app (goodIn_app (goodIn_app (goodIn_app (goodIn_app (goodIn_app gd_wsX6_init_r1 (goodIn_app gd_wsX6_init_r2 (goodIn_app gd_wsX6_init_r3 gd_wsX6_init_r4))) gt_wsX60) gt_wsX00) gt_wsX20) gt_wsX10) gt_wsX30) gt_wsX40) gt_wsX50))
theorem gL_law_X6_init : GoodIn wsL_law (wsX6_init) := gd_wsX6_init
set_option maxRecDepth 20000 in
theorem gd_wsX8_init_r1 : GoodIn wsL_law wsX8_init_r1 := (gi_c gw_110 (gi_c gw_12 (gi_c gw_13 (gi_c gw_111 (gi_c gw_112 (gi_c gw_113 (gi_c gw_114 (gi_c gw_115 (gi_c gw_116 (gi_c gw_117 (gi_c gw_118 (gi_c gw_39 (gi_c gw_119 (gi_c gw_120 (gi_c gw_121 (gi_c gw_122 (gi_c gw_123 (gi_c gw_124 (gi_c gw_125 (gi_c gw_126 (gi_c gw_127 (gi_c gw_128 (gi_c gw_129 (gi_c gw_130 gi_nil))))))))))))))))))))))))
set_option maxRecDepth 20000 in
theorem gd_wsX8_init_r2 : GoodIn wsL_law wsX8_init_r2 := (gi_c gw_131 (gi_c gw_132 (gi_c gw_133 (gi_c gw_134 (gi_c gw_135 (gi_c gw_136 (gi_c gw_137 (gi_c gw_138 (gi_c gw_139 (gi_c gw_140 (gi_c gw_141 (gi_c gw_142 (gi_c gw_143 (gi_c gw_144 (gi_c gw_145 (gi_c gw_146 (gi_c gw_147 (gi_c gw_148 gi_nil))))))))))))))))))
set_option maxRecDepth 20000 in
theorem gd_wsX8_init : GoodIn wsL_law wsX8_init := (gi_c gw_109 (goodIn_app (goodIn_app (goodIn_app (goodIn_app (goodIn_app gd_wsX8_init_r1 gd_wsX8_init_r2) gt_wsJx4a65c0) gt_wsX80) gt_wsX70) gs_0))
theorem gL_law_X8_init : GoodIn wsL_law (wsX8_init) := gd_wsX8_init
set_option maxRecDepth 20000 in
theorem gd_wsL_roll : GoodIn wsL_law wsL_roll := (gi_c gw_152 (goodIn_app (goodIn_app (goodIn_app (gi_c gw_153 (gi_c gw_154 (gi_c gw_155 (gi_c gw_156 (gi_c gw_2 (gi_c gw_157 (gi_c gw_158 (gi_c gw_159 (gi_c gw_160 (gi_c gw_161 (gi_c gw_162 (gi_c gw_163 (gi_c gw_30 (gi_c gw_164 (gi_c gw_165 (gi_c gw_166 (gi_c gw_167 gi_nil))))))))))))))))) gt_wsX60) gs_0) gs_1))
theorem gL_law_L_roll : GoodIn wsL_law (va_wsS RL 136 yL_roll wsL_roll) := goodIn_app (gi_c gw_149 (gi_c gw_150 (gi_c gw_151 gi_nil))) gd_wsL_roll
set_option maxRecDepth 20000 in
theorem gd_wsX8_roll_r1 : GoodIn wsL_law wsX8_roll_r1 := (gi_c gw_114 (gi_c gw_172 (gi_c gw_120 (gi_c gw_173 (gi_c gw_174 (gi_c gw_175 (gi_c gw_113 (gi_c gw_176 (gi_c gw_177 (gi_c gw_178 (gi_c gw_179 (gi_c gw_180 (gi_c gw_5 (gi_c gw_181 (gi_c gw_182 (gi_c gw_183 (gi_c gw_184 (gi_c gw_185 (gi_c gw_186 (gi_c gw_187 (gi_c gw_188 (gi_c gw_132 (gi_c gw_189 (gi_c gw_190 gi_nil))))))))))))))))))))))))
set_option maxRecDepth 20000 in
theorem gd_wsX8_roll_r2 : GoodIn wsL_law wsX8_roll_r2 := (gi_c gw_191 (gi_c gw_192 (gi_c gw_193 (gi_c gw_194 (gi_c gw_195 (gi_c gw_196 (gi_c gw_197 (gi_c gw_198 (gi_c gw_199 (gi_c gw_200 (gi_c gw_131 (gi_c gw_201 (gi_c gw_202 (gi_c gw_203 (gi_c gw_204 (gi_c gw_205 (gi_c gw_206 (gi_c gw_207 (gi_c gw_208 (gi_c gw_209 (gi_c gw_210 (gi_c gw_211 (gi_c gw_212 (gi_c gw_213 gi_nil))))))))))))))))))))))))
set_option maxRecDepth 20000 in
theorem gd_wsX8_roll_r3 : GoodIn wsL_law wsX8_roll_r3 := (gi_c gw_214 (gi_c gw_215 (gi_c gw_216 (gi_c gw_217 (gi_c gw_218 (gi_c gw_219 (gi_c gw_220 (gi_c gw_221 (gi_c gw_222 (gi_c gw_223 (gi_c gw_224 (gi_c gw_225 (gi_c gw_226 (gi_c gw_227 (gi_c gw_228 (gi_c gw_229 (gi_c gw_230 (gi_c gw_231 (gi_c gw_232 (gi_c gw_233 (gi_c gw_234 gi_nil)))))))))))))))))))))
set_option maxRecDepth 20000 in
theorem gd_wsX8_roll : GoodIn wsL_law wsX8_roll := (gi_c gw_171 (goodIn_app (goodIn_app (goodIn_app gd_wsX8_roll_r1 (goodIn_app gd_wsX8_roll_r2 gd_wsX8_roll_r3)) gt_wsX80) gt_wsJx4a65c0))
theorem gL_law_X8_roll : GoodIn wsL_law (wsV RL 141 RX8 yX8_roll wsX8_roll) := goodIn_app (gi_c gw_168 (gi_c gw_169 (gi_c gw_170 (gi_c gw_5 gi_nil)))) gd_wsX8_roll
set_option maxRecDepth 20000 in
theorem gd_wsX8_thrown : GoodIn wsL_law wsX8_thrown := (gi_c gw_238 (goodIn_app (gi_c gw_182 gi_nil) gt_wsX80))
theorem gL_law_X8_thrown : GoodIn wsL_law (wsV RL 142 RX8 yX8_thrown wsX8_thrown) := goodIn_app (gi_c gw_235 (gi_c gw_236 (gi_c gw_237 (gi_c gw_5 gi_nil)))) gd_wsX8_thrown
set_option maxRecDepth 20000 in
theorem gd_wsL_punch_r1 : GoodIn wsL_law wsL_punch_r1 := (gi_c gw_242 (gi_c gw_243 (gi_c gw_244 (gi_c gw_245 (gi_c gw_246 (gi_c gw_2 (gi_c gw_247 (gi_c gw_248 (gi_c gw_249 (gi_c gw_250 (gi_c gw_251 (gi_c gw_252 (gi_c gw_253 (gi_c gw_15 (gi_c gw_254 (gi_c gw_255 (gi_c gw_256 (gi_c gw_257 (gi_c gw_30 (gi_c gw_258 (gi_c gw_259 (gi_c gw_260 (gi_c gw_261 (gi_c gw_262 gi_nil))))))))))))))))))))))))
set_option maxRecDepth 20000 in
theorem gd_wsL_punch_r2 : GoodIn wsL_law wsL_punch_r2 := (gi_c gw_263 (gi_c gw_264 (gi_c gw_265 (gi_c gw_35 (gi_c gw_266 (gi_c gw_267 (gi_c gw_268 (gi_c gw_269 (gi_c gw_270 (gi_c gw_106 (gi_c gw_271 (gi_c gw_272 (gi_c gw_273 (gi_c gw_274 (gi_c gw_275 (gi_c gw_276 (gi_c gw_277 (gi_c gw_278 (gi_c gw_31 gi_nil)))))))))))))))))))
set_option maxRecDepth 20000 in
theorem gd_wsL_punch : GoodIn wsL_law wsL_punch := (gi_c gw_241 (goodIn_app (goodIn_app (goodIn_app (goodIn_app (goodIn_app (goodIn_app gd_wsL_punch_r1 gd_wsL_punch_r2) gt_wsX60) gt_wsX10) gs_0) gs_2) gs_3))
theorem gL_law_L_punch : GoodIn wsL_law (va_wsS RL 145 yL_punch wsL_punch) := goodIn_app (gi_c gw_239 (gi_c gw_240 (gi_c gw_151 gi_nil))) gd_wsL_punch
set_option maxRecDepth 20000 in
theorem gd_wsX8_punch_r1 : GoodIn wsL_law wsX8_punch_r1 := (gi_c gw_114 (gi_c gw_172 (gi_c gw_283 (gi_c gw_284 (gi_c gw_285 (gi_c gw_5 (gi_c gw_286 (gi_c gw_287 (gi_c gw_288 (gi_c gw_289 (gi_c gw_290 (gi_c gw_173 (gi_c gw_174 (gi_c gw_175 (gi_c gw_113 (gi_c gw_176 (gi_c gw_177 (gi_c gw_291 (gi_c gw_292 (gi_c gw_293 (gi_c gw_178 (gi_c gw_179 (gi_c gw_180 (gi_c gw_181 gi_nil))))))))))))))))))))))))
set_option maxRecDepth 20000 in
theorem gd_wsX8_punch_r2 : GoodIn wsL_law wsX8_punch_r2 := (gi_c gw_182 (gi_c gw_294 (gi_c gw_295 (gi_c gw_296 (gi_c gw_297 (gi_c gw_298 (gi_c gw_299 (gi_c gw_300 (gi_c gw_301 (gi_c gw_302 (gi_c gw_303 (gi_c gw_304 (gi_c gw_305 (gi_c gw_306 (gi_c gw_307 (gi_c gw_308 (gi_c gw_309 (gi_c gw_132 gi_nil))))))))))))))))))
set_option maxRecDepth 20000 in
theorem gd_wsX8_punch : GoodIn wsL_law wsX8_punch := (gi_c gw_282 (goodIn_app (goodIn_app (goodIn_app (goodIn_app gd_wsX8_punch_r1 gd_wsX8_punch_r2) gt_wsX80) gt_wsJx4a65c0) gs_0))
theorem gL_law_X8_punch : GoodIn wsL_law (wsV RL 148 RX8 yX8_punch wsX8_punch) := goodIn_app (gi_c gw_279 (gi_c gw_280 (gi_c gw_281 (gi_c gw_5 gi_nil)))) gd_wsX8_punch
set_option maxRecDepth 20000 in
theorem gd_wsL_hole_r1 : GoodIn wsL_law wsL_hole_r1 := (gi_c gw_242 (gi_c gw_243 (gi_c gw_313 (gi_c gw_314 (gi_c gw_315 (gi_c gw_2 (gi_c gw_316 (gi_c gw_248 (gi_c gw_249 (gi_c gw_250 (gi_c gw_251 (gi_c gw_252 (gi_c gw_253 (gi_c gw_15 (gi_c gw_254 (gi_c gw_255 (gi_c gw_256 (gi_c gw_257 (gi_c gw_30 (gi_c gw_258 (gi_c gw_259 (gi_c gw_260 (gi_c gw_261 (gi_c gw_262 gi_nil))))))))))))))))))))))))
set_option maxRecDepth 20000 in
theorem gd_wsL_hole_r2 : GoodIn wsL_law wsL_hole_r2 := (gi_c gw_263 (gi_c gw_264 (gi_c gw_265 (gi_c gw_35 (gi_c gw_266 (gi_c gw_267 (gi_c gw_268 (gi_c gw_269 (gi_c gw_270 (gi_c gw_106 gi_nil))))))))))
set_option maxRecDepth 20000 in
theorem gd_wsL_hole : GoodIn wsL_law wsL_hole := (gi_c gw_312 (goodIn_app (goodIn_app (goodIn_app (goodIn_app (goodIn_app (goodIn_app gd_wsL_hole_r1 gd_wsL_hole_r2) gt_wsX60) gt_wsX10) gs_0) gs_2) gs_3))
theorem gL_law_L_hole : GoodIn wsL_law (va_wsS RL 149 yL_hole wsL_hole) := goodIn_app (gi_c gw_310 (gi_c gw_311 (gi_c gw_151 gi_nil))) gd_wsL_hole
set_option maxRecDepth 20000 in
theorem gd_wsX8_hole_r1 : GoodIn wsL_law wsX8_hole_r1 := (gi_c gw_114 (gi_c gw_172 (gi_c gw_283 (gi_c gw_284 (gi_c gw_285 (gi_c gw_5 (gi_c gw_286 (gi_c gw_287 (gi_c gw_288 (gi_c gw_289 (gi_c gw_290 (gi_c gw_173 (gi_c gw_174 (gi_c gw_175 (gi_c gw_113 (gi_c gw_176 (gi_c gw_177 (gi_c gw_291 (gi_c gw_292 (gi_c gw_293 (gi_c gw_178 (gi_c gw_179 (gi_c gw_180 (gi_c gw_181 gi_nil))))))))))))))))))))))))
set_option maxRecDepth 20000 in
theorem gd_wsX8_hole_r2 : GoodIn wsL_law wsX8_hole_r2 := (gi_c gw_182 (gi_c gw_294 (gi_c gw_295 (gi_c gw_296 (gi_c gw_297 (gi_c gw_298 (gi_c gw_299 (gi_c gw_300 (gi_c gw_301 (gi_c gw_302 (gi_c gw_303 (gi_c gw_304 (gi_c gw_305 (gi_c gw_306 (gi_c gw_307 (gi_c gw_308 (gi_c gw_309 (gi_c gw_132 gi_nil))))))))))))))))))
set_option maxRecDepth 20000 in
theorem gd_wsX8_hole : GoodIn wsL_law wsX8_hole := (gi_c gw_320 (goodIn_app (goodIn_app (goodIn_app (goodIn_app gd_wsX8_hole_r1 gd_wsX8_hole_r2) gt_wsX80) gt_wsJx4a65c0) gs_0))
theorem gL_law_X8_hole : GoodIn wsL_law (wsV RL 152 RX8 yX8_hole wsX8_hole) := goodIn_app (gi_c gw_317 (gi_c gw_318 (gi_c gw_319 (gi_c gw_5 gi_nil)))) gd_wsX8_hole
set_option maxRecDepth 20000 in
theorem gd_wsL_length : GoodIn wsL_law wsL_length := (gi_c gw_323 (goodIn_app (goodIn_app (goodIn_app (goodIn_app (gi_c gw_242 (gi_c gw_324 (gi_c gw_325 (gi_c gw_326 (gi_c gw_2 (gi_c gw_327 (gi_c gw_248 (gi_c gw_249 (gi_c gw_250 (gi_c gw_251 (gi_c gw_252 (gi_c gw_253 (gi_c gw_15 (gi_c gw_254 (gi_c gw_255 (gi_c gw_256 (gi_c gw_257 (gi_c gw_30 (gi_c gw_328 (gi_c gw_329 (gi_c gw_330 (gi_c gw_35 (gi_c gw_331 (gi_c gw_106 gi_nil)))))))))))))))))))))))) gt_wsX60) gt_wsX10) gs_0) gs_2))
theorem gL_law_L_length : GoodIn wsL_law (va_wsS RL 153 yL_length wsL_length) := goodIn_app (gi_c gw_321 (gi_c gw_322 (gi_c gw_151 gi_nil))) gd_wsL_length
set_option maxRecDepth 20000 in
theorem gd_wsX8_length_r1 : GoodIn wsL_law wsX8_length_r1 := (gi_c gw_287 (gi_c gw_288 (gi_c gw_289 (gi_c gw_5 (gi_c gw_290 (gi_c gw_114 (gi_c gw_173 (gi_c gw_174 (gi_c gw_175 (gi_c gw_113 (gi_c gw_176 (gi_c gw_177 (gi_c gw_291 (gi_c gw_292 (gi_c gw_293 (gi_c gw_178 (gi_c gw_179 (gi_c gw_180 (gi_c gw_181 (gi_c gw_182 (gi_c gw_336 (gi_c gw_337 (gi_c gw_338 (gi_c gw_339 gi_nil))))))))))))))))))))))))
set_option maxRecDepth 20000 in
theorem gd_wsX8_length_r2 : GoodIn wsL_law wsX8_length_r2 := (gi_c gw_172 (gi_c gw_294 (gi_c gw_295 (gi_c gw_296 (gi_c gw_297 (gi_c gw_298 (gi_c gw_299 (gi_c gw_300 (gi_c gw_301 (gi_c gw_302 (gi_c gw_303 (gi_c gw_304 (gi_c gw_305 (gi_c gw_306 (gi_c gw_307 (gi_c gw_308 (gi_c gw_309 (gi_c gw_132 gi_nil))))))))))))))))))
set_option maxRecDepth 20000 in
theorem gd_wsX8_length : GoodIn wsL_law wsX8_length := (gi_c gw_335 (goodIn_app (goodIn_app (goodIn_app (goodIn_app gd_wsX8_length_r1 gd_wsX8_length_r2) gt_wsX80) gt_wsJx4a65c0) gs_0))
theorem gL_law_X8_length : GoodIn wsL_law (wsV RL 156 RX8 yX8_length wsX8_length) := goodIn_app (gi_c gw_332 (gi_c gw_333 (gi_c gw_334 (gi_c gw_5 gi_nil)))) gd_wsX8_length
set_option maxRecDepth 20000 in
theorem gd_wsL_holes_r1 : GoodIn wsL_law wsL_holes_r1 := (gi_c gw_242 (gi_c gw_243 (gi_c gw_343 (gi_c gw_344 (gi_c gw_345 (gi_c gw_2 (gi_c gw_346 (gi_c gw_248 (gi_c gw_249 (gi_c gw_250 (gi_c gw_251 (gi_c gw_252 (gi_c gw_253 (gi_c gw_15 (gi_c gw_254 (gi_c gw_255 (gi_c gw_256 (gi_c gw_257 (gi_c gw_30 (gi_c gw_258 (gi_c gw_259 (gi_c gw_260 (gi_c gw_261 (gi_c gw_262 gi_nil))))))))))))))))))))))))
set_option maxRecDepth 20000 in
theorem gd_wsL_holes_r2 : GoodIn wsL_law wsL_holes_r2 := (gi_c gw_347 (gi_c gw_348 (gi_c gw_349 (gi_c gw_35 (gi_c gw_350 (gi_c gw_106 (gi_c gw_351 (gi_c gw_352 (gi_c gw_353 (gi_c gw_354 (gi_c gw_355 (gi_c gw_356 (gi_c gw_357 gi_nil)))))))))))))
set_option maxRecDepth 20000 in
theorem gd_wsL_holes : GoodIn wsL_law wsL_holes := (gi_c gw_342 (goodIn_app (goodIn_app (goodIn_app (goodIn_app (goodIn_app (goodIn_app gd_wsL_holes_r1 gd_wsL_holes_r2) gt_wsX60) gt_wsX10) gs_0) gs_2) gs_3))
theorem gL_law_L_holes : GoodIn wsL_law (va_wsS RL 157 yL_holes wsL_holes) := goodIn_app (gi_c gw_340 (gi_c gw_341 (gi_c gw_151 gi_nil))) gd_wsL_holes
set_option maxRecDepth 20000 in
theorem gd_wsX8_holes_r1 : GoodIn wsL_law wsX8_holes_r1 := (gi_c gw_287 (gi_c gw_288 (gi_c gw_289 (gi_c gw_5 (gi_c gw_290 (gi_c gw_114 (gi_c gw_173 (gi_c gw_174 (gi_c gw_175 (gi_c gw_113 (gi_c gw_176 (gi_c gw_177 (gi_c gw_291 (gi_c gw_292 (gi_c gw_293 (gi_c gw_178 (gi_c gw_179 (gi_c gw_180 (gi_c gw_181 (gi_c gw_182 (gi_c gw_362 (gi_c gw_363 (gi_c gw_364 (gi_c gw_365 gi_nil))))))))))))))))))))))))
set_option maxRecDepth 20000 in
theorem gd_wsX8_holes_r2 : GoodIn wsL_law wsX8_holes_r2 := (gi_c gw_172 (gi_c gw_294 (gi_c gw_295 (gi_c gw_296 (gi_c gw_297 (gi_c gw_298 (gi_c gw_299 (gi_c gw_300 (gi_c gw_301 (gi_c gw_302 (gi_c gw_303 (gi_c gw_304 (gi_c gw_305 (gi_c gw_306 (gi_c gw_307 (gi_c gw_308 (gi_c gw_309 (gi_c gw_132 gi_nil))))))))))))))))))
set_option maxRecDepth 20000 in
theorem gd_wsX8_holes : GoodIn wsL_law wsX8_holes := (gi_c gw_361 (goodIn_app (goodIn_app (goodIn_app (goodIn_app gd_wsX8_holes_r1 gd_wsX8_holes_r2) gt_wsX80) gt_wsJx4a65c0) gs_0))
theorem gL_law_X8_holes : GoodIn wsL_law (wsV RL 160 RX8 yX8_holes wsX8_holes) := goodIn_app (gi_c gw_358 (gi_c gw_359 (gi_c gw_360 (gi_c gw_5 gi_nil)))) gd_wsX8_holes
set_option maxRecDepth 20000 in
theorem gd_wsL_copy_r1 : GoodIn wsL_law wsL_copy_r1 := (gi_c gw_242 (gi_c gw_153 (gi_c gw_369 (gi_c gw_370 (gi_c gw_371 (gi_c gw_2 (gi_c gw_372 (gi_c gw_248 (gi_c gw_249 (gi_c gw_250 (gi_c gw_251 (gi_c gw_252 (gi_c gw_253 (gi_c gw_15 (gi_c gw_254 (gi_c gw_255 (gi_c gw_256 (gi_c gw_257 (gi_c gw_30 (gi_c gw_158 (gi_c gw_159 (gi_c gw_160 (gi_c gw_161 (gi_c gw_162 gi_nil))))))))))))))))))))))))
set_option maxRecDepth 20000 in
theorem gd_wsL_copy_r2 : GoodIn wsL_law wsL_copy_r2 := (gi_c gw_163 (gi_c gw_164 (gi_c gw_165 (gi_c gw_166 (gi_c gw_167 (gi_c gw_373 (gi_c gw_374 (gi_c gw_375 (gi_c gw_35 (gi_c gw_376 (gi_c gw_106 gi_nil)))))))))))
set_option maxRecDepth 20000 in
theorem gd_wsL_copy : GoodIn wsL_law wsL_copy := (gi_c gw_368 (goodIn_app (goodIn_app (goodIn_app (goodIn_app (goodIn_app (goodIn_app gd_wsL_copy_r1 gd_wsL_copy_r2) gt_wsX60) gt_wsX10) gs_0) gs_2) gs_1))
theorem gL_law_L_copy : GoodIn wsL_law (va_wsS RL 161 yL_copy wsL_copy) := goodIn_app (gi_c gw_366 (gi_c gw_367 (gi_c gw_151 gi_nil))) gd_wsL_copy
set_option maxRecDepth 20000 in
theorem gd_wsX8_copy_r1 : GoodIn wsL_law wsX8_copy_r1 := (gi_c gw_114 (gi_c gw_381 (gi_c gw_172 (gi_c gw_382 (gi_c gw_383 (gi_c gw_384 (gi_c gw_385 (gi_c gw_386 (gi_c gw_287 (gi_c gw_288 (gi_c gw_289 (gi_c gw_5 (gi_c gw_290 (gi_c gw_173 (gi_c gw_174 (gi_c gw_175 (gi_c gw_113 (gi_c gw_176 (gi_c gw_177 (gi_c gw_291 (gi_c gw_292 (gi_c gw_293 (gi_c gw_178 (gi_c gw_179 gi_nil))))))))))))))))))))))))
set_option maxRecDepth 20000 in
theorem gd_wsX8_copy_r2 : GoodIn wsL_law wsX8_copy_r2 := (gi_c gw_180 (gi_c gw_181 (gi_c gw_182 (gi_c gw_294 (gi_c gw_295 (gi_c gw_296 (gi_c gw_297 (gi_c gw_298 (gi_c gw_299 (gi_c gw_300 (gi_c gw_301 (gi_c gw_302 (gi_c gw_303 (gi_c gw_304 (gi_c gw_305 (gi_c gw_306 (gi_c gw_307 (gi_c gw_308 (gi_c gw_309 (gi_c gw_132 (gi_c gw_183 (gi_c gw_184 (gi_c gw_185 (gi_c gw_186 gi_nil))))))))))))))))))))))))
set_option maxRecDepth 20000 in
theorem gd_wsX8_copy_r3 : GoodIn wsL_law wsX8_copy_r3 := (gi_c gw_187 (gi_c gw_188 (gi_c gw_189 (gi_c gw_190 (gi_c gw_191 (gi_c gw_192 (gi_c gw_193 (gi_c gw_194 (gi_c gw_195 (gi_c gw_196 (gi_c gw_197 (gi_c gw_198 (gi_c gw_199 (gi_c gw_200 (gi_c gw_131 (gi_c gw_201 (gi_c gw_202 (gi_c gw_203 (gi_c gw_204 (gi_c gw_205 (gi_c gw_206 (gi_c gw_207 (gi_c gw_208 (gi_c gw_209 gi_nil))))))))))))))))))))))))
set_option maxRecDepth 20000 in
theorem gd_wsX8_copy_r4 : GoodIn wsL_law wsX8_copy_r4 := (gi_c gw_210 (gi_c gw_211 (gi_c gw_212 (gi_c gw_213 (gi_c gw_214 (gi_c gw_215 (gi_c gw_216 (gi_c gw_217 (gi_c gw_218 (gi_c gw_219 (gi_c gw_220 (gi_c gw_221 (gi_c gw_222 (gi_c gw_223 (gi_c gw_224 (gi_c gw_225 (gi_c gw_226 (gi_c gw_227 (gi_c gw_228 (gi_c gw_229 (gi_c gw_230 (gi_c gw_231 (gi_c gw_232 (gi_c gw_233 gi_nil))))))))))))))))))))))))
set_option maxRecDepth 20000 in
theorem gd_wsX8_copy_r5 : GoodIn wsL_law wsX8_copy_r5 := (gi_c gw_234 gi_nil)
set_option maxRecDepth 20000 in
theorem gd_wsX8_copy : GoodIn wsL_law wsX8_copy := (gi_c gw_380 (goodIn_app (goodIn_app (goodIn_app gd_wsX8_copy_r1 (goodIn_app gd_wsX8_copy_r2 (goodIn_app gd_wsX8_copy_r3 (goodIn_app gd_wsX8_copy_r4 gd_wsX8_copy_r5)))) gt_wsX80) gt_wsJx4a65c0))
theorem gL_law_X8_copy : GoodIn wsL_law (wsV RL 163 RX8 yX8_copy wsX8_copy) := goodIn_app (gi_c gw_377 (gi_c gw_378 (gi_c gw_379 (gi_c gw_5 gi_nil)))) gd_wsX8_copy
set_option maxRecDepth 20000 in
theorem gd_wsL_unlike_r1 : GoodIn wsL_law wsL_unlike_r1 := (gi_c gw_242 (gi_c gw_390 (gi_c gw_391 (gi_c gw_392 (gi_c gw_2 (gi_c gw_393 (gi_c gw_248 (gi_c gw_249 (gi_c gw_250 (gi_c gw_251 (gi_c gw_252 (gi_c gw_253 (gi_c gw_15 (gi_c gw_254 (gi_c gw_255 (gi_c gw_256 (gi_c gw_257 (gi_c gw_30 (gi_c gw_394 (gi_c gw_395 (gi_c gw_396 (gi_c gw_35 (gi_c gw_397 (gi_c gw_106 gi_nil))))))))))))))))))))))))
set_option maxRecDepth 20000 in
theorem gd_wsL_unlike_r2 : GoodIn wsL_law wsL_unlike_r2 := (gi_c gw_351 (gi_c gw_352 (gi_c gw_353 (gi_c gw_354 (gi_c gw_355 (gi_c gw_356 (gi_c gw_357 gi_nil)))))))
set_option maxRecDepth 20000 in
theorem gd_wsL_unlike : GoodIn wsL_law wsL_unlike := (gi_c gw_389 (goodIn_app (goodIn_app (goodIn_app (goodIn_app (goodIn_app gd_wsL_unlike_r1 gd_wsL_unlike_r2) gt_wsX60) gt_wsX10) gs_0) gs_2))
theorem gL_law_L_unlike : GoodIn wsL_law (va_wsS RL 164 yL_unlike wsL_unlike) := goodIn_app (gi_c gw_387 (gi_c gw_388 (gi_c gw_151 gi_nil))) gd_wsL_unlike
set_option maxRecDepth 20000 in
theorem gd_wsX8_unlike_r1 : GoodIn wsL_law wsX8_unlike_r1 := (gi_c gw_287 (gi_c gw_288 (gi_c gw_289 (gi_c gw_5 (gi_c gw_290 (gi_c gw_114 (gi_c gw_173 (gi_c gw_174 (gi_c gw_175 (gi_c gw_113 (gi_c gw_176 (gi_c gw_177 (gi_c gw_291 (gi_c gw_292 (gi_c gw_293 (gi_c gw_178 (gi_c gw_179 (gi_c gw_180 (gi_c gw_181 (gi_c gw_182 (gi_c gw_402 (gi_c gw_403 (gi_c gw_404 (gi_c gw_405 gi_nil))))))))))))))))))))))))
set_option maxRecDepth 20000 in
theorem gd_wsX8_unlike_r2 : GoodIn wsL_law wsX8_unlike_r2 := (gi_c gw_172 (gi_c gw_294 (gi_c gw_295 (gi_c gw_296 (gi_c gw_297 (gi_c gw_298 (gi_c gw_299 (gi_c gw_300 (gi_c gw_301 (gi_c gw_302 (gi_c gw_303 (gi_c gw_304 (gi_c gw_305 (gi_c gw_306 (gi_c gw_307 (gi_c gw_308 (gi_c gw_309 (gi_c gw_132 gi_nil))))))))))))))))))
set_option maxRecDepth 20000 in
theorem gd_wsX8_unlike : GoodIn wsL_law wsX8_unlike := (gi_c gw_401 (goodIn_app (goodIn_app (goodIn_app (goodIn_app gd_wsX8_unlike_r1 gd_wsX8_unlike_r2) gt_wsX80) gt_wsJx4a65c0) gs_0))
theorem gL_law_X8_unlike : GoodIn wsL_law (wsV RL 166 RX8 yX8_unlike wsX8_unlike) := goodIn_app (gi_c gw_398 (gi_c gw_399 (gi_c gw_400 (gi_c gw_5 gi_nil)))) gd_wsX8_unlike
set_option maxRecDepth 20000 in
theorem gd_wsL_parent_r1 : GoodIn wsL_law wsL_parent_r1 := (gi_c gw_242 (gi_c gw_409 (gi_c gw_410 (gi_c gw_411 (gi_c gw_412 (gi_c gw_2 (gi_c gw_413 (gi_c gw_414 (gi_c gw_415 (gi_c gw_248 (gi_c gw_249 (gi_c gw_250 (gi_c gw_251 (gi_c gw_252 (gi_c gw_253 (gi_c gw_15 (gi_c gw_254 (gi_c gw_255 (gi_c gw_256 (gi_c gw_257 (gi_c gw_30 (gi_c gw_394 (gi_c gw_395 (gi_c gw_396 gi_nil))))))))))))))))))))))))
set_option maxRecDepth 20000 in
theorem gd_wsL_parent_r2 : GoodIn wsL_law wsL_parent_r2 := (gi_c gw_35 (gi_c gw_397 (gi_c gw_106 (gi_c gw_351 (gi_c gw_352 (gi_c gw_353 (gi_c gw_354 (gi_c gw_355 (gi_c gw_356 (gi_c gw_357 gi_nil))))))))))
set_option maxRecDepth 20000 in
theorem gd_wsL_parent : GoodIn wsL_law wsL_parent := (gi_c gw_408 (goodIn_app (goodIn_app (goodIn_app (goodIn_app (goodIn_app (goodIn_app gd_wsL_parent_r1 gd_wsL_parent_r2) gt_wsX60) gt_wsX10) gs_0) gs_4) gs_2))
theorem gL_law_L_parent : GoodIn wsL_law (va_wsS RL 167 yL_parent wsL_parent) := goodIn_app (gi_c gw_406 (gi_c gw_407 (gi_c gw_151 gi_nil))) gd_wsL_parent
set_option maxRecDepth 20000 in
theorem gd_wsX8_parent_r1 : GoodIn wsL_law wsX8_parent_r1 := (gi_c gw_287 (gi_c gw_288 (gi_c gw_289 (gi_c gw_5 (gi_c gw_290 (gi_c gw_114 (gi_c gw_173 (gi_c gw_174 (gi_c gw_175 (gi_c gw_113 (gi_c gw_176 (gi_c gw_177 (gi_c gw_291 (gi_c gw_292 (gi_c gw_293 (gi_c gw_178 (gi_c gw_179 (gi_c gw_180 (gi_c gw_181 (gi_c gw_182 (gi_c gw_402 (gi_c gw_403 (gi_c gw_404 (gi_c gw_405 gi_nil))))))))))))))))))))))))
set_option maxRecDepth 20000 in
theorem gd_wsX8_parent_r2 : GoodIn wsL_law wsX8_parent_r2 := (gi_c gw_172 (gi_c gw_294 (gi_c gw_295 (gi_c gw_296 (gi_c gw_297 (gi_c gw_298 (gi_c gw_299 (gi_c gw_300 (gi_c gw_301 (gi_c gw_302 (gi_c gw_303 (gi_c gw_304 (gi_c gw_305 (gi_c gw_306 (gi_c gw_307 (gi_c gw_308 (gi_c gw_309 (gi_c gw_132 gi_nil))))))))))))))))))
set_option maxRecDepth 20000 in
theorem gd_wsX8_parent : GoodIn wsL_law wsX8_parent := (gi_c gw_419 (goodIn_app (goodIn_app (goodIn_app (goodIn_app gd_wsX8_parent_r1 gd_wsX8_parent_r2) gt_wsX80) gt_wsJx4a65c0) gs_0))
theorem gL_law_X8_parent : GoodIn wsL_law (wsV RL 169 RX8 yX8_parent wsX8_parent) := goodIn_app (gi_c gw_416 (gi_c gw_417 (gi_c gw_418 (gi_c gw_5 gi_nil)))) gd_wsX8_parent
set_option maxRecDepth 20000 in
theorem gd_wsL_note_r1 : GoodIn wsL_law wsL_note_r1 := (gi_c gw_243 (gi_c gw_423 (gi_c gw_153 (gi_c gw_424 (gi_c gw_425 (gi_c gw_426 (gi_c gw_2 (gi_c gw_427 (gi_c gw_428 (gi_c gw_429 (gi_c gw_162 (gi_c gw_163 (gi_c gw_19 (gi_c gw_31 (gi_c gw_258 (gi_c gw_259 (gi_c gw_260 (gi_c gw_261 (gi_c gw_262 (gi_c gw_430 (gi_c gw_431 (gi_c gw_432 (gi_c gw_18 (gi_c gw_433 gi_nil))))))))))))))))))))))))
set_option maxRecDepth 20000 in
theorem gd_wsL_note_r2 : GoodIn wsL_law wsL_note_r2 := (gi_c gw_43 (gi_c gw_42 (gi_c gw_40 (gi_c gw_41 (gi_c gw_434 (gi_c gw_435 (gi_c gw_436 (gi_c gw_437 (gi_c gw_438 (gi_c gw_439 (gi_c gw_440 (gi_c gw_441 gi_nil))))))))))))
set_option maxRecDepth 20000 in
theorem gd_wsL_note : GoodIn wsL_law wsL_note := (gi_c gw_422 (goodIn_app (goodIn_app (goodIn_app (goodIn_app (goodIn_app (goodIn_app (goodIn_app gd_wsL_note_r1 gd_wsL_note_r2) gt_wsX60) gt_wsX00) gs_0) gs_5) gs_1) gs_3))
theorem gL_law_L_note : GoodIn wsL_law (va_wsS RL 170 yL_note wsL_note) := goodIn_app (gi_c gw_420 (gi_c gw_421 (gi_c gw_151 gi_nil))) gd_wsL_note
set_option maxRecDepth 20000 in
theorem gd_wsX8_note_r1 : GoodIn wsL_law wsX8_note_r1 := (gi_c gw_115 (gi_c gw_446 (gi_c gw_39 (gi_c gw_291 (gi_c gw_292 (gi_c gw_5 (gi_c gw_293 (gi_c gw_447 (gi_c gw_448 (gi_c gw_449 (gi_c gw_178 (gi_c gw_179 (gi_c gw_180 (gi_c gw_181 (gi_c gw_182 (gi_c gw_450 (gi_c gw_451 (gi_c gw_452 (gi_c gw_113 (gi_c gw_453 (gi_c gw_454 (gi_c gw_455 (gi_c gw_456 (gi_c gw_457 gi_nil))))))))))))))))))))))))
set_option maxRecDepth 20000 in
theorem gd_wsX8_note_r2 : GoodIn wsL_law wsX8_note_r2 := (gi_c gw_458 (gi_c gw_459 (gi_c gw_460 (gi_c gw_461 (gi_c gw_12 (gi_c gw_13 (gi_c gw_462 (gi_c gw_463 (gi_c gw_188 (gi_c gw_464 (gi_c gw_465 (gi_c gw_466 (gi_c gw_467 (gi_c gw_468 (gi_c gw_469 (gi_c gw_470 (gi_c gw_471 (gi_c gw_472 (gi_c gw_473 (gi_c gw_474 (gi_c gw_475 (gi_c gw_476 (gi_c gw_477 (gi_c gw_478 gi_nil))))))))))))))))))))))))
set_option maxRecDepth 20000 in
theorem gd_wsX8_note_r3 : GoodIn wsL_law wsX8_note_r3 := (gi_c gw_173 (gi_c gw_174 (gi_c gw_175 (gi_c gw_176 (gi_c gw_177 (gi_c gw_183 (gi_c gw_184 (gi_c gw_185 (gi_c gw_186 (gi_c gw_187 (gi_c gw_132 (gi_c gw_189 (gi_c gw_190 (gi_c gw_191 (gi_c gw_192 (gi_c gw_193 (gi_c gw_194 (gi_c gw_195 (gi_c gw_196 (gi_c gw_197 (gi_c gw_198 (gi_c gw_199 (gi_c gw_200 (gi_c gw_131 gi_nil))))))))))))))))))))))))
set_option maxRecDepth 20000 in
theorem gd_wsX8_note_r4 : GoodIn wsL_law wsX8_note_r4 := (gi_c gw_201 (gi_c gw_202 (gi_c gw_203 (gi_c gw_204 (gi_c gw_205 (gi_c gw_206 (gi_c gw_207 (gi_c gw_208 (gi_c gw_209 (gi_c gw_210 (gi_c gw_211 (gi_c gw_212 (gi_c gw_213 (gi_c gw_214 (gi_c gw_215 (gi_c gw_216 (gi_c gw_217 (gi_c gw_218 (gi_c gw_219 (gi_c gw_220 (gi_c gw_221 (gi_c gw_222 (gi_c gw_223 (gi_c gw_224 gi_nil))))))))))))))))))))))))
set_option maxRecDepth 20000 in
theorem gd_wsX8_note_r5 : GoodIn wsL_law wsX8_note_r5 := (gi_c gw_225 (gi_c gw_226 (gi_c gw_227 (gi_c gw_228 (gi_c gw_229 (gi_c gw_230 (gi_c gw_231 (gi_c gw_232 (gi_c gw_233 (gi_c gw_234 gi_nil))))))))))
set_option maxRecDepth 20000 in
theorem gd_wsX8_note : GoodIn wsL_law wsX8_note := (gi_c gw_445 (goodIn_app (goodIn_app (goodIn_app (goodIn_app (goodIn_app gd_wsX8_note_r1 (goodIn_app gd_wsX8_note_r2 (goodIn_app gd_wsX8_note_r3 (goodIn_app gd_wsX8_note_r4 gd_wsX8_note_r5)))) gt_wsX80) gt_wsJx354110) gt_wsJx4a65c0) gs_0))
theorem gL_law_X8_note : GoodIn wsL_law (wsV RL 172 RX8 yX8_note wsX8_note) := goodIn_app (gi_c gw_442 (gi_c gw_443 (gi_c gw_444 (gi_c gw_5 gi_nil)))) gd_wsX8_note
set_option maxRecDepth 20000 in
theorem gd_wsX6_wipe : GoodIn wsL_law wsX6_wipe := (gi_c gw_482 (goodIn_app (goodIn_app (gi_c gw_31 (gi_c gw_19 (gi_c gw_483 (gi_c gw_484 (gi_c gw_485 (gi_c gw_18 (gi_c gw_486 (gi_c gw_43 gi_nil)))))))) gt_wsX60) gt_wsX00))
theorem gL_law_X6_wipe : GoodIn wsL_law (wsV RL 173 RX6 yX6_wipe wsX6_wipe) := goodIn_app (gi_c gw_479 (gi_c gw_480 (gi_c gw_481 (gi_c gw_2 gi_nil)))) gd_wsX6_wipe
set_option maxRecDepth 20000 in
theorem gd_wsX8_wipe : GoodIn wsL_law wsX8_wipe := (gi_c gw_490 (goodIn_app (goodIn_app (gi_c gw_115 (gi_c gw_173 (gi_c gw_174 (gi_c gw_175 (gi_c gw_113 (gi_c gw_176 (gi_c gw_177 (gi_c gw_491 (gi_c gw_492 (gi_c gw_493 (gi_c gw_494 (gi_c gw_187 (gi_c gw_188 (gi_c gw_132 gi_nil)))))))))))))) gt_wsX80) gt_wsJx4a65c0))
theorem gL_law_X8_wipe : GoodIn wsL_law (wsV RL 176 RX8 yX8_wipe wsX8_wipe) := goodIn_app (gi_c gw_487 (gi_c gw_488 (gi_c gw_489 (gi_c gw_5 gi_nil)))) gd_wsX8_wipe
set_option maxRecDepth 20000 in
theorem gd_wsL_arrange_r1 : GoodIn wsL_law wsL_arrange_r1 := (gi_c gw_242 (gi_c gw_498 (gi_c gw_499 (gi_c gw_500 (gi_c gw_2 (gi_c gw_501 (gi_c gw_19 (gi_c gw_31 (gi_c gw_248 (gi_c gw_249 (gi_c gw_250 (gi_c gw_251 (gi_c gw_252 (gi_c gw_253 (gi_c gw_15 (gi_c gw_254 (gi_c gw_255 (gi_c gw_256 (gi_c gw_257 (gi_c gw_30 (gi_c gw_502 (gi_c gw_503 (gi_c gw_504 (gi_c gw_35 gi_nil))))))))))))))))))))))))
set_option maxRecDepth 20000 in
theorem gd_wsL_arrange_r2 : GoodIn wsL_law wsL_arrange_r2 := (gi_c gw_505 (gi_c gw_106 (gi_c gw_506 (gi_c gw_507 (gi_c gw_508 (gi_c gw_18 (gi_c gw_509 (gi_c gw_43 (gi_c gw_510 (gi_c gw_511 (gi_c gw_512 (gi_c gw_513 (gi_c gw_41 (gi_c gw_40 (gi_c gw_42 (gi_c gw_514 (gi_c gw_272 (gi_c gw_273 (gi_c gw_274 (gi_c gw_347 (gi_c gw_348 (gi_c gw_349 (gi_c gw_350 (gi_c gw_351 gi_nil))))))))))))))))))))))))
set_option maxRecDepth 20000 in
theorem gd_wsL_arrange_r3 : GoodIn wsL_law wsL_arrange_r3 := (gi_c gw_352 (gi_c gw_353 (gi_c gw_354 (gi_c gw_355 (gi_c gw_356 (gi_c gw_357 gi_nil))))))
set_option maxRecDepth 20000 in
theorem gd_wsL_arrange : GoodIn wsL_law wsL_arrange := (gi_c gw_497 (goodIn_app (goodIn_app (goodIn_app (goodIn_app (goodIn_app (goodIn_app gd_wsL_arrange_r1 (goodIn_app gd_wsL_arrange_r2 gd_wsL_arrange_r3)) gt_wsX60) gt_wsX10) gt_wsX00) gs_0) gs_2))
theorem gL_law_L_arrange : GoodIn wsL_law (va_wsS RL 177 yL_arrange wsL_arrange) := goodIn_app (gi_c gw_495 (gi_c gw_496 (gi_c gw_151 gi_nil))) gd_wsL_arrange
set_option maxRecDepth 20000 in
theorem gd_wsX8_arrange_r1 : GoodIn wsL_law wsX8_arrange_r1 := (gi_c gw_114 (gi_c gw_172 (gi_c gw_115 (gi_c gw_446 (gi_c gw_287 (gi_c gw_288 (gi_c gw_289 (gi_c gw_5 (gi_c gw_290 (gi_c gw_173 (gi_c gw_174 (gi_c gw_175 (gi_c gw_113 (gi_c gw_176 (gi_c gw_177 (gi_c gw_291 (gi_c gw_292 (gi_c gw_293 (gi_c gw_178 (gi_c gw_179 (gi_c gw_180 (gi_c gw_181 (gi_c gw_182 (gi_c gw_294 gi_nil))))))))))))))))))))))))
set_option maxRecDepth 20000 in
theorem gd_wsX8_arrange_r2 : GoodIn wsL_law wsX8_arrange_r2 := (gi_c gw_295 (gi_c gw_296 (gi_c gw_297 (gi_c gw_298 (gi_c gw_299 (gi_c gw_300 (gi_c gw_301 (gi_c gw_302 (gi_c gw_303 (gi_c gw_304 (gi_c gw_305 (gi_c gw_306 (gi_c gw_307 (gi_c gw_308 (gi_c gw_309 (gi_c gw_132 (gi_c gw_450 (gi_c gw_451 (gi_c gw_452 (gi_c gw_453 (gi_c gw_454 (gi_c gw_455 (gi_c gw_456 (gi_c gw_457 gi_nil))))))))))))))))))))))))
set_option maxRecDepth 20000 in
theorem gd_wsX8_arrange_r3 : GoodIn wsL_law wsX8_arrange_r3 := (gi_c gw_458 (gi_c gw_459 (gi_c gw_460 (gi_c gw_461 (gi_c gw_12 (gi_c gw_13 (gi_c gw_462 (gi_c gw_463 (gi_c gw_188 (gi_c gw_464 (gi_c gw_465 (gi_c gw_466 (gi_c gw_467 (gi_c gw_468 (gi_c gw_469 (gi_c gw_470 (gi_c gw_471 (gi_c gw_472 (gi_c gw_473 (gi_c gw_474 (gi_c gw_475 (gi_c gw_476 (gi_c gw_477 (gi_c gw_478 gi_nil))))))))))))))))))))))))
set_option maxRecDepth 20000 in
theorem gd_wsX8_arrange_r4 : GoodIn wsL_law wsX8_arrange_r4 := (gi_c gw_362 (gi_c gw_363 (gi_c gw_364 (gi_c gw_365 gi_nil))))
set_option maxRecDepth 20000 in
theorem gd_wsX8_arrange : GoodIn wsL_law wsX8_arrange := (gi_c gw_518 (goodIn_app (goodIn_app (goodIn_app (goodIn_app (goodIn_app gd_wsX8_arrange_r1 (goodIn_app gd_wsX8_arrange_r2 (goodIn_app gd_wsX8_arrange_r3 gd_wsX8_arrange_r4))) gt_wsX80) gt_wsJx4a65c0) gt_wsJx354110) gs_0))
theorem gL_law_X8_arrange : GoodIn wsL_law (wsV RL 180 RX8 yX8_arrange wsX8_arrange) := goodIn_app (gi_c gw_515 (gi_c gw_516 (gi_c gw_517 (gi_c gw_5 gi_nil)))) gd_wsX8_arrange
set_option maxRecDepth 20000 in
theorem gd_wsL_scanned_r1 : GoodIn wsL_law wsL_scanned_r1 := (gi_c gw_242 (gi_c gw_522 (gi_c gw_523 (gi_c gw_524 (gi_c gw_2 (gi_c gw_525 (gi_c gw_248 (gi_c gw_249 (gi_c gw_250 (gi_c gw_251 (gi_c gw_252 (gi_c gw_253 (gi_c gw_15 (gi_c gw_254 (gi_c gw_255 (gi_c gw_256 (gi_c gw_257 (gi_c gw_30 (gi_c gw_526 (gi_c gw_527 (gi_c gw_528 (gi_c gw_35 (gi_c gw_529 (gi_c gw_530 gi_nil))))))))))))))))))))))))
set_option maxRecDepth 20000 in
theorem gd_wsL_scanned_r2 : GoodIn wsL_law wsL_scanned_r2 := (gi_c gw_531 (gi_c gw_532 (gi_c gw_533 (gi_c gw_267 (gi_c gw_268 (gi_c gw_269 (gi_c gw_270 (gi_c gw_106 (gi_c gw_351 (gi_c gw_352 (gi_c gw_353 (gi_c gw_354 (gi_c gw_355 (gi_c gw_356 (gi_c gw_357 gi_nil)))))))))))))))
set_option maxRecDepth 20000 in
theorem gd_wsL_scanned : GoodIn wsL_law wsL_scanned := (gi_c gw_521 (goodIn_app (goodIn_app (goodIn_app (goodIn_app (goodIn_app gd_wsL_scanned_r1 gd_wsL_scanned_r2) gt_wsX60) gt_wsX10) gs_0) gs_2))
theorem gL_law_L_scanned : GoodIn wsL_law (va_wsS RL 181 yL_scanned wsL_scanned) := goodIn_app (gi_c gw_519 (gi_c gw_520 (gi_c gw_151 gi_nil))) gd_wsL_scanned
set_option maxRecDepth 20000 in
theorem gd_wsX8_scanned_r1 : GoodIn wsL_law wsX8_scanned_r1 := (gi_c gw_287 (gi_c gw_288 (gi_c gw_289 (gi_c gw_5 (gi_c gw_290 (gi_c gw_114 (gi_c gw_173 (gi_c gw_174 (gi_c gw_175 (gi_c gw_113 (gi_c gw_176 (gi_c gw_177 (gi_c gw_291 (gi_c gw_292 (gi_c gw_293 (gi_c gw_178 (gi_c gw_179 (gi_c gw_180 (gi_c gw_181 (gi_c gw_182 (gi_c gw_538 (gi_c gw_539 (gi_c gw_540 (gi_c gw_541 gi_nil))))))))))))))))))))))))
set_option maxRecDepth 20000 in
theorem gd_wsX8_scanned_r2 : GoodIn wsL_law wsX8_scanned_r2 := (gi_c gw_111 (gi_c gw_112 (gi_c gw_172 (gi_c gw_39 (gi_c gw_128 (gi_c gw_129 (gi_c gw_130 (gi_c gw_131 (gi_c gw_132 (gi_c gw_133 (gi_c gw_134 (gi_c gw_135 (gi_c gw_136 (gi_c gw_137 (gi_c gw_138 (gi_c gw_139 (gi_c gw_140 (gi_c gw_141 (gi_c gw_142 (gi_c gw_12 (gi_c gw_13 (gi_c gw_294 (gi_c gw_295 (gi_c gw_296 gi_nil))))))))))))))))))))))))
set_option maxRecDepth 20000 in
theorem gd_wsX8_scanned_r3 : GoodIn wsL_law wsX8_scanned_r3 := (gi_c gw_297 (gi_c gw_298 (gi_c gw_299 (gi_c gw_300 (gi_c gw_301 (gi_c gw_302 (gi_c gw_303 (gi_c gw_304 (gi_c gw_305 (gi_c gw_306 (gi_c gw_307 (gi_c gw_308 (gi_c gw_309 (gi_c gw_183 (gi_c gw_184 (gi_c gw_185 (gi_c gw_186 (gi_c gw_187 (gi_c gw_188 (gi_c gw_189 (gi_c gw_190 (gi_c gw_191 (gi_c gw_192 (gi_c gw_193 gi_nil))))))))))))))))))))))))
set_option maxRecDepth 20000 in
theorem gd_wsX8_scanned_r4 : GoodIn wsL_law wsX8_scanned_r4 := (gi_c gw_194 (gi_c gw_195 (gi_c gw_196 (gi_c gw_197 (gi_c gw_198 (gi_c gw_199 (gi_c gw_200 (gi_c gw_201 (gi_c gw_202 (gi_c gw_203 (gi_c gw_204 (gi_c gw_205 (gi_c gw_206 (gi_c gw_207 (gi_c gw_208 (gi_c gw_209 (gi_c gw_210 (gi_c gw_211 (gi_c gw_212 (gi_c gw_213 (gi_c gw_214 (gi_c gw_215 (gi_c gw_216 (gi_c gw_217 gi_nil))))))))))))))))))))))))
set_option maxRecDepth 20000 in
theorem gd_wsX8_scanned_r5 : GoodIn wsL_law wsX8_scanned_r5 := (gi_c gw_218 (gi_c gw_219 (gi_c gw_220 (gi_c gw_221 (gi_c gw_222 (gi_c gw_223 (gi_c gw_224 (gi_c gw_225 (gi_c gw_226 (gi_c gw_227 (gi_c gw_228 (gi_c gw_229 (gi_c gw_230 (gi_c gw_231 (gi_c gw_232 (gi_c gw_233 (gi_c gw_234 gi_nil)))))))))))))))))
set_option maxRecDepth 20000 in
theorem gd_wsX8_scanned : GoodIn wsL_law wsX8_scanned := (gi_c gw_537 (goodIn_app (goodIn_app (goodIn_app (goodIn_app gd_wsX8_scanned_r1 (goodIn_app gd_wsX8_scanned_r2 (goodIn_app gd_wsX8_scanned_r3 (goodIn_app gd_wsX8_scanned_r4 gd_wsX8_scanned_r5)))) gt_wsX80) gt_wsJx4a65c0) gs_0))
theorem gL_law_X8_scanned : GoodIn wsL_law (wsV RL 183 RX8 yX8_scanned wsX8_scanned) := goodIn_app (gi_c gw_534 (gi_c gw_535 (gi_c gw_536 (gi_c gw_5 gi_nil)))) gd_wsX8_scanned
set_option maxRecDepth 20000 in
theorem gd_wsL_scan_r1 : GoodIn wsL_law wsL_scan_r1 := (gi_c gw_242 (gi_c gw_243 (gi_c gw_409 (gi_c gw_545 (gi_c gw_546 (gi_c gw_547 (gi_c gw_2 (gi_c gw_548 (gi_c gw_261 (gi_c gw_262 (gi_c gw_414 (gi_c gw_415 (gi_c gw_248 (gi_c gw_249 (gi_c gw_250 (gi_c gw_251 (gi_c gw_252 (gi_c gw_253 (gi_c gw_15 (gi_c gw_254 (gi_c gw_255 (gi_c gw_256 (gi_c gw_257 (gi_c gw_30 gi_nil))))))))))))))))))))))))
set_option maxRecDepth 20000 in
theorem gd_wsL_scan_r2 : GoodIn wsL_law wsL_scan_r2 := (gi_c gw_549 (gi_c gw_550 (gi_c gw_551 (gi_c gw_35 (gi_c gw_552 (gi_c gw_530 (gi_c gw_531 (gi_c gw_532 (gi_c gw_533 (gi_c gw_267 (gi_c gw_268 (gi_c gw_269 (gi_c gw_270 (gi_c gw_106 (gi_c gw_351 (gi_c gw_352 (gi_c gw_353 (gi_c gw_354 (gi_c gw_355 (gi_c gw_356 (gi_c gw_357 (gi_c gw_553 (gi_c gw_554 (gi_c gw_555 gi_nil))))))))))))))))))))))))
set_option maxRecDepth 20000 in
theorem gd_wsL_scan_r3 : GoodIn wsL_law wsL_scan_r3 := (gi_c gw_556 (gi_c gw_557 (gi_c gw_558 (gi_c gw_559 (gi_c gw_560 (gi_c gw_264 (gi_c gw_265 (gi_c gw_266 gi_nil))))))))
set_option maxRecDepth 20000 in
theorem gd_wsL_scan : GoodIn wsL_law wsL_scan := (gi_c gw_544 (goodIn_app (goodIn_app (goodIn_app (goodIn_app (goodIn_app (goodIn_app (goodIn_app gd_wsL_scan_r1 (goodIn_app gd_wsL_scan_r2 gd_wsL_scan_r3)) gt_wsX60) gt_wsX10) gs_0) gs_3) gs_4) gs_2))
theorem gL_law_L_scan : GoodIn wsL_law (va_wsS RL 184 yL_scan wsL_scan) := goodIn_app (gi_c gw_542 (gi_c gw_543 (gi_c gw_151 gi_nil))) gd_wsL_scan
set_option maxRecDepth 20000 in
theorem gd_wsX8_scan__r1 : GoodIn wsL_law wsX8_scan__r1 := (gi_c gw_446 (gi_c gw_287 (gi_c gw_288 (gi_c gw_289 (gi_c gw_5 (gi_c gw_290 (gi_c gw_114 (gi_c gw_173 (gi_c gw_174 (gi_c gw_175 (gi_c gw_113 (gi_c gw_176 (gi_c gw_177 (gi_c gw_291 (gi_c gw_292 (gi_c gw_293 (gi_c gw_178 (gi_c gw_179 (gi_c gw_180 (gi_c gw_181 (gi_c gw_182 (gi_c gw_565 (gi_c gw_566 (gi_c gw_567 gi_nil))))))))))))))))))))))))
set_option maxRecDepth 20000 in
theorem gd_wsX8_scan__r2 : GoodIn wsL_law wsX8_scan__r2 := (gi_c gw_568 (gi_c gw_569 (gi_c gw_570 (gi_c gw_571 (gi_c gw_572 (gi_c gw_573 (gi_c gw_574 (gi_c gw_575 (gi_c gw_576 (gi_c gw_577 (gi_c gw_578 (gi_c gw_579 (gi_c gw_580 (gi_c gw_581 (gi_c gw_582 (gi_c gw_583 (gi_c gw_584 (gi_c gw_585 (gi_c gw_586 (gi_c gw_587 (gi_c gw_588 (gi_c gw_589 (gi_c gw_590 (gi_c gw_591 gi_nil))))))))))))))))))))))))
set_option maxRecDepth 20000 in
theorem gd_wsX8_scan__r3 : GoodIn wsL_law wsX8_scan__r3 := (gi_c gw_592 (gi_c gw_593 (gi_c gw_202 (gi_c gw_203 (gi_c gw_204 (gi_c gw_594 (gi_c gw_229 (gi_c gw_230 (gi_c gw_595 (gi_c gw_596 (gi_c gw_597 (gi_c gw_598 (gi_c gw_599 (gi_c gw_600 (gi_c gw_601 (gi_c gw_602 (gi_c gw_603 (gi_c gw_604 (gi_c gw_605 (gi_c gw_606 (gi_c gw_607 (gi_c gw_608 (gi_c gw_609 (gi_c gw_610 gi_nil))))))))))))))))))))))))
set_option maxRecDepth 20000 in
theorem gd_wsX8_scan__r4 : GoodIn wsL_law wsX8_scan__r4 := (gi_c gw_611 (gi_c gw_612 (gi_c gw_613 (gi_c gw_614 (gi_c gw_615 (gi_c gw_616 (gi_c gw_617 (gi_c gw_618 (gi_c gw_619 (gi_c gw_620 (gi_c gw_621 (gi_c gw_622 (gi_c gw_304 (gi_c gw_623 (gi_c gw_624 (gi_c gw_625 (gi_c gw_626 (gi_c gw_627 (gi_c gw_628 (gi_c gw_629 (gi_c gw_630 (gi_c gw_631 (gi_c gw_632 (gi_c gw_633 gi_nil))))))))))))))))))))))))
set_option maxRecDepth 20000 in
theorem gd_wsX8_scan__r5 : GoodIn wsL_law wsX8_scan__r5 := (gi_c gw_634 (gi_c gw_635 (gi_c gw_636 (gi_c gw_637 (gi_c gw_638 (gi_c gw_639 (gi_c gw_640 (gi_c gw_641 (gi_c gw_642 (gi_c gw_643 (gi_c gw_644 (gi_c gw_645 (gi_c gw_646 (gi_c gw_647 (gi_c gw_538 (gi_c gw_539 (gi_c gw_540 (gi_c gw_541 (gi_c gw_111 (gi_c gw_112 (gi_c gw_172 (gi_c gw_39 (gi_c gw_128 (gi_c gw_129 gi_nil))))))))))))))))))))))))
set_option maxRecDepth 20000 in
theorem gd_wsX8_scan__r6 : GoodIn wsL_law wsX8_scan__r6 := (gi_c gw_130 (gi_c gw_131 (gi_c gw_132 (gi_c gw_133 (gi_c gw_134 (gi_c gw_135 (gi_c gw_136 (gi_c gw_137 (gi_c gw_138 (gi_c gw_139 (gi_c gw_140 (gi_c gw_141 (gi_c gw_142 (gi_c gw_12 (gi_c gw_13 (gi_c gw_294 (gi_c gw_295 (gi_c gw_296 (gi_c gw_297 (gi_c gw_298 (gi_c gw_299 (gi_c gw_300 (gi_c gw_301 (gi_c gw_302 gi_nil))))))))))))))))))))))))
set_option maxRecDepth 20000 in
theorem gd_wsX8_scan__r7 : GoodIn wsL_law wsX8_scan__r7 := (gi_c gw_303 (gi_c gw_305 (gi_c gw_306 (gi_c gw_307 (gi_c gw_308 (gi_c gw_309 (gi_c gw_183 (gi_c gw_184 (gi_c gw_185 (gi_c gw_186 (gi_c gw_187 (gi_c gw_188 (gi_c gw_189 (gi_c gw_190 (gi_c gw_191 (gi_c gw_192 (gi_c gw_193 (gi_c gw_194 (gi_c gw_195 (gi_c gw_196 (gi_c gw_197 (gi_c gw_198 (gi_c gw_199 (gi_c gw_200 gi_nil))))))))))))))))))))))))
set_option maxRecDepth 20000 in
theorem gd_wsX8_scan__r8 : GoodIn wsL_law wsX8_scan__r8 := (gi_c gw_201 (gi_c gw_205 (gi_c gw_206 (gi_c gw_207 (gi_c gw_208 (gi_c gw_209 (gi_c gw_210 (gi_c gw_211 (gi_c gw_212 (gi_c gw_213 (gi_c gw_214 (gi_c gw_215 (gi_c gw_216 (gi_c gw_217 (gi_c gw_218 (gi_c gw_219 (gi_c gw_220 (gi_c gw_221 (gi_c gw_222 (gi_c gw_223 (gi_c gw_224 (gi_c gw_225 (gi_c gw_226 (gi_c gw_227 gi_nil))))))))))))))))))))))))
set_option maxRecDepth 20000 in
theorem gd_wsX8_scan__r9 : GoodIn wsL_law wsX8_scan__r9 := (gi_c gw_228 (gi_c gw_231 (gi_c gw_232 (gi_c gw_233 (gi_c gw_234 gi_nil)))))
set_option maxRecDepth 20000 in
theorem gd_wsX8_scan_ : GoodIn wsL_law wsX8_scan_ := (gi_c gw_564 (goodIn_app (goodIn_app (goodIn_app (goodIn_app (goodIn_app gd_wsX8_scan__r1 (goodIn_app gd_wsX8_scan__r2 (goodIn_app gd_wsX8_scan__r3 (goodIn_app gd_wsX8_scan__r4 (goodIn_app gd_wsX8_scan__r5 (goodIn_app gd_wsX8_scan__r6 (goodIn_app gd_wsX8_scan__r7 (goodIn_app gd_wsX8_scan__r8 gd_wsX8_scan__r9)))))))) gt_wsX80) gt_wsJx4a65c0) gt_wsJ00) gs_0))
theorem gL_law_X8_scan_ : GoodIn wsL_law (wsV RL 187 RX8 yX8_scan_ wsX8_scan_) := goodIn_app (gi_c gw_561 (gi_c gw_562 (gi_c gw_563 (gi_c gw_5 gi_nil)))) gd_wsX8_scan_
set_option maxRecDepth 20000 in
theorem gd_wsL_isMusic_r1 : GoodIn wsL_law wsL_isMusic_r1 := (gi_c gw_242 (gi_c gw_651 (gi_c gw_652 (gi_c gw_653 (gi_c gw_2 (gi_c gw_654 (gi_c gw_19 (gi_c gw_248 (gi_c gw_249 (gi_c gw_250 (gi_c gw_251 (gi_c gw_252 (gi_c gw_253 (gi_c gw_15 (gi_c gw_254 (gi_c gw_255 (gi_c gw_256 (gi_c gw_257 (gi_c gw_30 (gi_c gw_655 (gi_c gw_656 (gi_c gw_657 (gi_c gw_18 (gi_c gw_658 gi_nil))))))))))))))))))))))))
set_option maxRecDepth 20000 in
theorem gd_wsL_isMusic_r2 : GoodIn wsL_law wsL_isMusic_r2 := (gi_c gw_43 (gi_c gw_40 (gi_c gw_42 (gi_c gw_41 (gi_c gw_659 (gi_c gw_527 (gi_c gw_528 (gi_c gw_35 (gi_c gw_529 (gi_c gw_530 (gi_c gw_531 (gi_c gw_532 (gi_c gw_533 (gi_c gw_267 (gi_c gw_268 (gi_c gw_269 (gi_c gw_270 (gi_c gw_106 (gi_c gw_351 (gi_c gw_352 (gi_c gw_353 (gi_c gw_354 (gi_c gw_355 (gi_c gw_356 gi_nil))))))))))))))))))))))))
set_option maxRecDepth 20000 in
theorem gd_wsL_isMusic_r3 : GoodIn wsL_law wsL_isMusic_r3 := (gi_c gw_357 (gi_c gw_660 (gi_c gw_661 (gi_c gw_662 (gi_c gw_663 (gi_c gw_664 (gi_c gw_557 (gi_c gw_558 (gi_c gw_559 (gi_c gw_560 (gi_c gw_264 (gi_c gw_265 (gi_c gw_266 gi_nil)))))))))))))
set_option maxRecDepth 20000 in
theorem gd_wsL_isMusic : GoodIn wsL_law wsL_isMusic := (gi_c gw_650 (goodIn_app (goodIn_app (goodIn_app (goodIn_app (goodIn_app (goodIn_app gd_wsL_isMusic_r1 (goodIn_app gd_wsL_isMusic_r2 gd_wsL_isMusic_r3)) gt_wsX60) gt_wsX00) gt_wsX10) gs_0) gs_2))
theorem gL_law_L_isMusic : GoodIn wsL_law (va_wsS RL 188 yL_isMusic wsL_isMusic) := goodIn_app (gi_c gw_648 (gi_c gw_649 (gi_c gw_151 gi_nil))) gd_wsL_isMusic
set_option maxRecDepth 20000 in
theorem gd_wsX8_isMusic_r1 : GoodIn wsL_law wsX8_isMusic_r1 := (gi_c gw_115 (gi_c gw_446 (gi_c gw_287 (gi_c gw_288 (gi_c gw_289 (gi_c gw_5 (gi_c gw_290 (gi_c gw_114 (gi_c gw_173 (gi_c gw_174 (gi_c gw_175 (gi_c gw_113 (gi_c gw_176 (gi_c gw_177 (gi_c gw_291 (gi_c gw_292 (gi_c gw_293 (gi_c gw_178 (gi_c gw_179 (gi_c gw_180 (gi_c gw_181 (gi_c gw_182 (gi_c gw_538 (gi_c gw_539 gi_nil))))))))))))))))))))))))
set_option maxRecDepth 20000 in
theorem gd_wsX8_isMusic_r2 : GoodIn wsL_law wsX8_isMusic_r2 := (gi_c gw_540 (gi_c gw_541 (gi_c gw_111 (gi_c gw_112 (gi_c gw_172 (gi_c gw_39 (gi_c gw_128 (gi_c gw_129 (gi_c gw_130 (gi_c gw_131 (gi_c gw_132 (gi_c gw_133 (gi_c gw_134 (gi_c gw_135 (gi_c gw_136 (gi_c gw_137 (gi_c gw_138 (gi_c gw_139 (gi_c gw_140 (gi_c gw_141 (gi_c gw_142 (gi_c gw_12 (gi_c gw_13 (gi_c gw_294 gi_nil))))))))))))))))))))))))
set_option maxRecDepth 20000 in
theorem gd_wsX8_isMusic_r3 : GoodIn wsL_law wsX8_isMusic_r3 := (gi_c gw_295 (gi_c gw_296 (gi_c gw_297 (gi_c gw_298 (gi_c gw_299 (gi_c gw_300 (gi_c gw_301 (gi_c gw_302 (gi_c gw_303 (gi_c gw_304 (gi_c gw_305 (gi_c gw_306 (gi_c gw_307 (gi_c gw_308 (gi_c gw_309 (gi_c gw_183 (gi_c gw_184 (gi_c gw_185 (gi_c gw_186 (gi_c gw_187 (gi_c gw_188 (gi_c gw_189 (gi_c gw_190 (gi_c gw_191 gi_nil))))))))))))))))))))))))
set_option maxRecDepth 20000 in
theorem gd_wsX8_isMusic_r4 : GoodIn wsL_law wsX8_isMusic_r4 := (gi_c gw_192 (gi_c gw_193 (gi_c gw_194 (gi_c gw_195 (gi_c gw_196 (gi_c gw_197 (gi_c gw_198 (gi_c gw_199 (gi_c gw_200 (gi_c gw_201 (gi_c gw_202 (gi_c gw_203 (gi_c gw_204 (gi_c gw_205 (gi_c gw_206 (gi_c gw_207 (gi_c gw_208 (gi_c gw_209 (gi_c gw_210 (gi_c gw_211 (gi_c gw_212 (gi_c gw_213 (gi_c gw_214 (gi_c gw_215 gi_nil))))))))))))))))))))))))
set_option maxRecDepth 20000 in
theorem gd_wsX8_isMusic_r5 : GoodIn wsL_law wsX8_isMusic_r5 := (gi_c gw_216 (gi_c gw_217 (gi_c gw_218 (gi_c gw_219 (gi_c gw_220 (gi_c gw_221 (gi_c gw_222 (gi_c gw_223 (gi_c gw_224 (gi_c gw_225 (gi_c gw_226 (gi_c gw_227 (gi_c gw_228 (gi_c gw_229 (gi_c gw_230 (gi_c gw_231 (gi_c gw_232 (gi_c gw_233 (gi_c gw_234 (gi_c gw_450 (gi_c gw_451 (gi_c gw_452 (gi_c gw_453 (gi_c gw_454 gi_nil))))))))))))))))))))))))
set_option maxRecDepth 20000 in
theorem gd_wsX8_isMusic_r6 : GoodIn wsL_law wsX8_isMusic_r6 := (gi_c gw_455 (gi_c gw_456 (gi_c gw_457 (gi_c gw_458 (gi_c gw_459 (gi_c gw_460 (gi_c gw_461 (gi_c gw_462 (gi_c gw_463 (gi_c gw_464 (gi_c gw_465 (gi_c gw_466 (gi_c gw_467 (gi_c gw_468 (gi_c gw_469 (gi_c gw_470 (gi_c gw_471 (gi_c gw_472 (gi_c gw_473 (gi_c gw_474 (gi_c gw_475 (gi_c gw_476 (gi_c gw_477 (gi_c gw_478 gi_nil))))))))))))))))))))))))
set_option maxRecDepth 20000 in
theorem gd_wsX8_isMusic_r7 : GoodIn wsL_law wsX8_isMusic_r7 := (gi_c gw_669 (gi_c gw_670 (gi_c gw_671 gi_nil)))
set_option maxRecDepth 20000 in
theorem gd_wsX8_isMusic : GoodIn wsL_law wsX8_isMusic := (gi_c gw_668 (goodIn_app (goodIn_app (goodIn_app (goodIn_app (goodIn_app gd_wsX8_isMusic_r1 (goodIn_app gd_wsX8_isMusic_r2 (goodIn_app gd_wsX8_isMusic_r3 (goodIn_app gd_wsX8_isMusic_r4 (goodIn_app gd_wsX8_isMusic_r5 (goodIn_app gd_wsX8_isMusic_r6 gd_wsX8_isMusic_r7)))))) gt_wsX80) gt_wsJx4a65c0) gt_wsJx354110) gs_0))
theorem gL_law_X8_isMusic : GoodIn wsL_law (wsV RL 190 RX8 yX8_isMusic wsX8_isMusic) := goodIn_app (gi_c gw_665 (gi_c gw_666 (gi_c gw_667 (gi_c gw_5 gi_nil)))) gd_wsX8_isMusic
set_option maxRecDepth 20000 in
theorem gd_wsL_valve : GoodIn wsL_law wsL_valve := (gi_c gw_674 (goodIn_app (goodIn_app (goodIn_app (goodIn_app (goodIn_app (gi_c gw_242 (gi_c gw_243 (gi_c gw_675 (gi_c gw_676 (gi_c gw_677 (gi_c gw_2 (gi_c gw_678 (gi_c gw_679 (gi_c gw_680 (gi_c gw_681 (gi_c gw_682 (gi_c gw_683 (gi_c gw_684 (gi_c gw_252 (gi_c gw_253 (gi_c gw_27 (gi_c gw_258 (gi_c gw_259 (gi_c gw_260 (gi_c gw_261 (gi_c gw_262 gi_nil))))))))))))))))))))) gt_wsX50) gt_wsX60) gs_0) gs_2) gs_3))
theorem gL_law_L_valve : GoodIn wsL_law (va_wsS RL 191 yL_valve wsL_valve) := goodIn_app (gi_c gw_672 (gi_c gw_673 (gi_c gw_151 gi_nil))) gd_wsL_valve
set_option maxRecDepth 20000 in
theorem gd_wsX8_valve : GoodIn wsL_law wsX8_valve := (gi_c gw_688 (goodIn_app (goodIn_app (gi_c gw_118 (gi_c gw_689 (gi_c gw_690 (gi_c gw_447 (gi_c gw_448 (gi_c gw_5 (gi_c gw_449 (gi_c gw_291 (gi_c gw_292 (gi_c gw_293 (gi_c gw_178 (gi_c gw_179 (gi_c gw_180 (gi_c gw_181 (gi_c gw_182 gi_nil))))))))))))))) gt_wsX80) gt_wsX70))
theorem gL_law_X8_valve : GoodIn wsL_law (wsV RL 193 RX8 yX8_valve wsX8_valve) := goodIn_app (gi_c gw_685 (gi_c gw_686 (gi_c gw_687 (gi_c gw_5 gi_nil)))) gd_wsX8_valve
set_option maxRecDepth 20000 in
theorem gd_wsL_use : GoodIn wsL_law wsL_use := (gi_c gw_693 (goodIn_app (goodIn_app (goodIn_app (goodIn_app (goodIn_app (gi_c gw_242 (gi_c gw_243 (gi_c gw_694 (gi_c gw_695 (gi_c gw_696 (gi_c gw_2 (gi_c gw_697 (gi_c gw_698 (gi_c gw_681 (gi_c gw_682 (gi_c gw_683 (gi_c gw_684 (gi_c gw_252 (gi_c gw_253 (gi_c gw_27 (gi_c gw_258 (gi_c gw_259 (gi_c gw_260 (gi_c gw_261 (gi_c gw_262 gi_nil)))))))))))))))))))) gt_wsX50) gt_wsX60) gs_0) gs_2) gs_3))
theorem gL_law_L_use : GoodIn wsL_law (va_wsS RL 194 yL_use wsL_use) := goodIn_app (gi_c gw_691 (gi_c gw_692 (gi_c gw_151 gi_nil))) gd_wsL_use
set_option maxRecDepth 20000 in
theorem gd_wsX8_use : GoodIn wsL_law wsX8_use := (gi_c gw_702 (goodIn_app (goodIn_app (gi_c gw_118 (gi_c gw_703 (gi_c gw_447 (gi_c gw_448 (gi_c gw_5 (gi_c gw_449 (gi_c gw_291 (gi_c gw_292 (gi_c gw_293 (gi_c gw_178 (gi_c gw_179 (gi_c gw_180 (gi_c gw_181 (gi_c gw_182 gi_nil)))))))))))))) gt_wsX80) gt_wsX70))
theorem gL_law_X8_use : GoodIn wsL_law (wsV RL 196 RX8 yX8_use wsX8_use) := goodIn_app (gi_c gw_699 (gi_c gw_700 (gi_c gw_701 (gi_c gw_5 gi_nil)))) gd_wsX8_use
set_option maxRecDepth 20000 in
theorem gd_wsL_borrow : GoodIn wsL_law wsL_borrow := (gi_c gw_706 (goodIn_app (goodIn_app (goodIn_app (goodIn_app (goodIn_app (gi_c gw_242 (gi_c gw_423 (gi_c gw_707 (gi_c gw_708 (gi_c gw_709 (gi_c gw_2 (gi_c gw_710 (gi_c gw_428 (gi_c gw_429 (gi_c gw_711 (gi_c gw_681 (gi_c gw_682 (gi_c gw_683 (gi_c gw_684 (gi_c gw_252 (gi_c gw_253 (gi_c gw_27 (gi_c gw_712 (gi_c gw_713 (gi_c gw_714 (gi_c gw_715 gi_nil))))))))))))))))))))) gt_wsX50) gt_wsX60) gs_0) gs_5) gs_2))
theorem gL_law_L_borrow : GoodIn wsL_law (va_wsS RL 197 yL_borrow wsL_borrow) := goodIn_app (gi_c gw_704 (gi_c gw_705 (gi_c gw_151 gi_nil))) gd_wsL_borrow
set_option maxRecDepth 20000 in
theorem gd_wsX8_borrow : GoodIn wsL_law wsX8_borrow := (gi_c gw_719 (goodIn_app (goodIn_app (gi_c gw_118 (gi_c gw_127 (gi_c gw_447 (gi_c gw_448 (gi_c gw_5 (gi_c gw_449 (gi_c gw_291 (gi_c gw_292 (gi_c gw_293 (gi_c gw_178 (gi_c gw_179 (gi_c gw_180 (gi_c gw_181 (gi_c gw_182 gi_nil)))))))))))))) gt_wsX80) gt_wsX70))
theorem gL_law_X8_borrow : GoodIn wsL_law (wsV RL 199 RX8 yX8_borrow wsX8_borrow) := goodIn_app (gi_c gw_716 (gi_c gw_717 (gi_c gw_718 (gi_c gw_5 gi_nil)))) gd_wsX8_borrow
set_option maxRecDepth 20000 in
theorem gd_wsL_set_r1 : GoodIn wsL_law wsL_set_r1 := (gi_c gw_243 (gi_c gw_723 (gi_c gw_724 (gi_c gw_725 (gi_c gw_2 (gi_c gw_726 (gi_c gw_261 (gi_c gw_262 (gi_c gw_25 (gi_c gw_727 (gi_c gw_728 (gi_c gw_729 (gi_c gw_50 (gi_c gw_730 (gi_c gw_258 (gi_c gw_259 (gi_c gw_260 (gi_c gw_731 (gi_c gw_732 (gi_c gw_733 (gi_c gw_734 (gi_c gw_73 (gi_c gw_74 (gi_c gw_75 gi_nil))))))))))))))))))))))))
set_option maxRecDepth 20000 in
theorem gd_wsL_set_r2 : GoodIn wsL_law wsL_set_r2 := (gi_c gw_76 gi_nil)
set_option maxRecDepth 20000 in
theorem gd_wsL_set : GoodIn wsL_law wsL_set := (gi_c gw_722 (goodIn_app (goodIn_app (goodIn_app (goodIn_app (goodIn_app gd_wsL_set_r1 gd_wsL_set_r2) gt_wsX60) gt_wsX30) gs_0) gs_3))
theorem gL_law_L_set : GoodIn wsL_law (va_wsS RL 200 yL_set wsL_set) := goodIn_app (gi_c gw_720 (gi_c gw_721 (gi_c gw_151 gi_nil))) gd_wsL_set
set_option maxRecDepth 20000 in
theorem gd_wsX8_set_r1 : GoodIn wsL_law wsX8_set_r1 := (gi_c gw_39 (gi_c gw_739 (gi_c gw_202 (gi_c gw_203 (gi_c gw_204 (gi_c gw_119 (gi_c gw_565 (gi_c gw_566 (gi_c gw_567 (gi_c gw_568 (gi_c gw_569 (gi_c gw_570 (gi_c gw_571 (gi_c gw_572 (gi_c gw_573 (gi_c gw_574 (gi_c gw_575 (gi_c gw_576 (gi_c gw_577 (gi_c gw_578 (gi_c gw_579 (gi_c gw_580 (gi_c gw_581 (gi_c gw_582 gi_nil))))))))))))))))))))))))
set_option maxRecDepth 20000 in
theorem gd_wsX8_set_r2 : GoodIn wsL_law wsX8_set_r2 := (gi_c gw_583 (gi_c gw_584 (gi_c gw_585 (gi_c gw_586 (gi_c gw_587 (gi_c gw_588 (gi_c gw_589 (gi_c gw_590 (gi_c gw_591 (gi_c gw_592 (gi_c gw_593 (gi_c gw_594 (gi_c gw_229 (gi_c gw_230 (gi_c gw_595 (gi_c gw_596 (gi_c gw_597 (gi_c gw_598 (gi_c gw_599 (gi_c gw_600 (gi_c gw_601 (gi_c gw_602 (gi_c gw_603 (gi_c gw_604 gi_nil))))))))))))))))))))))))
set_option maxRecDepth 20000 in
theorem gd_wsX8_set_r3 : GoodIn wsL_law wsX8_set_r3 := (gi_c gw_605 (gi_c gw_606 (gi_c gw_607 (gi_c gw_608 (gi_c gw_609 (gi_c gw_610 (gi_c gw_611 (gi_c gw_612 (gi_c gw_613 (gi_c gw_614 (gi_c gw_615 (gi_c gw_616 (gi_c gw_617 (gi_c gw_618 (gi_c gw_619 (gi_c gw_620 (gi_c gw_621 (gi_c gw_622 (gi_c gw_304 (gi_c gw_623 (gi_c gw_624 (gi_c gw_625 (gi_c gw_626 (gi_c gw_627 gi_nil))))))))))))))))))))))))
set_option maxRecDepth 20000 in
theorem gd_wsX8_set_r4 : GoodIn wsL_law wsX8_set_r4 := (gi_c gw_628 (gi_c gw_629 (gi_c gw_630 (gi_c gw_631 (gi_c gw_632 (gi_c gw_633 (gi_c gw_634 (gi_c gw_635 (gi_c gw_636 (gi_c gw_637 (gi_c gw_638 (gi_c gw_639 (gi_c gw_640 (gi_c gw_641 (gi_c gw_642 (gi_c gw_643 (gi_c gw_644 (gi_c gw_645 (gi_c gw_646 (gi_c gw_647 (gi_c gw_291 (gi_c gw_292 (gi_c gw_5 (gi_c gw_293 gi_nil))))))))))))))))))))))))
set_option maxRecDepth 20000 in
theorem gd_wsX8_set_r5 : GoodIn wsL_law wsX8_set_r5 := (gi_c gw_178 (gi_c gw_179 (gi_c gw_180 (gi_c gw_181 (gi_c gw_182 gi_nil)))))
set_option maxRecDepth 20000 in
theorem gd_wsX8_set : GoodIn wsL_law wsX8_set := (gi_c gw_738 (goodIn_app (goodIn_app (goodIn_app (goodIn_app gd_wsX8_set_r1 (goodIn_app gd_wsX8_set_r2 (goodIn_app gd_wsX8_set_r3 (goodIn_app gd_wsX8_set_r4 gd_wsX8_set_r5)))) gt_wsX80) gt_wsJ00) gs_0))
theorem gL_law_X8_set : GoodIn wsL_law (wsV RL 203 RX8 yX8_set wsX8_set) := goodIn_app (gi_c gw_735 (gi_c gw_736 (gi_c gw_737 (gi_c gw_5 gi_nil)))) gd_wsX8_set
set_option maxRecDepth 20000 in
theorem gd_wsL_maker : GoodIn wsL_law wsL_maker := (gi_c gw_742 (goodIn_app (goodIn_app (goodIn_app (goodIn_app (gi_c gw_243 (gi_c gw_743 (gi_c gw_744 (gi_c gw_745 (gi_c gw_2 (gi_c gw_746 (gi_c gw_261 (gi_c gw_262 (gi_c gw_25 (gi_c gw_747 gi_nil)))))))))) gt_wsX60) gt_wsX30) gs_0) gs_3))
theorem gL_law_L_maker : GoodIn wsL_law (va_wsS RL 204 yL_maker wsL_maker) := goodIn_app (gi_c gw_740 (gi_c gw_741 (gi_c gw_151 gi_nil))) gd_wsL_maker
set_option maxRecDepth 20000 in
theorem gd_wsX8_maker : GoodIn wsL_law wsX8_maker := (gi_c gw_751 (goodIn_app (gi_c gw_124 (gi_c gw_291 (gi_c gw_292 (gi_c gw_5 (gi_c gw_293 (gi_c gw_178 (gi_c gw_179 (gi_c gw_180 (gi_c gw_181 (gi_c gw_182 gi_nil)))))))))) gt_wsX80))
theorem gL_law_X8_maker : GoodIn wsL_law (wsV RL 207 RX8 yX8_maker wsX8_maker) := goodIn_app (gi_c gw_748 (gi_c gw_749 (gi_c gw_750 (gi_c gw_5 gi_nil)))) gd_wsX8_maker
set_option maxRecDepth 20000 in
theorem gd_wsL_load_r1 : GoodIn wsL_law wsL_load_r1 := (gi_c gw_242 (gi_c gw_755 (gi_c gw_756 (gi_c gw_757 (gi_c gw_2 (gi_c gw_758 (gi_c gw_23 (gi_c gw_248 (gi_c gw_249 (gi_c gw_250 (gi_c gw_251 (gi_c gw_252 (gi_c gw_253 (gi_c gw_15 (gi_c gw_254 (gi_c gw_255 (gi_c gw_256 (gi_c gw_257 (gi_c gw_30 (gi_c gw_759 (gi_c gw_760 (gi_c gw_761 (gi_c gw_22 (gi_c gw_762 gi_nil))))))))))))))))))))))))
set_option maxRecDepth 20000 in
theorem gd_wsL_load_r2 : GoodIn wsL_law wsL_load_r2 := (gi_c gw_58 (gi_c gw_59 (gi_c gw_60 (gi_c gw_61 (gi_c gw_62 (gi_c gw_63 (gi_c gw_64 (gi_c gw_65 (gi_c gw_66 (gi_c gw_67 (gi_c gw_57 (gi_c gw_53 (gi_c gw_763 (gi_c gw_764 (gi_c gw_765 (gi_c gw_35 (gi_c gw_766 (gi_c gw_106 (gi_c gw_767 (gi_c gw_768 (gi_c gw_769 (gi_c gw_56 (gi_c gw_770 (gi_c gw_87 gi_nil))))))))))))))))))))))))
set_option maxRecDepth 20000 in
theorem gd_wsL_load_r3 : GoodIn wsL_law wsL_load_r3 := (gi_c gw_771 (gi_c gw_772 (gi_c gw_773 (gi_c gw_69 (gi_c gw_774 (gi_c gw_95 (gi_c gw_96 (gi_c gw_97 (gi_c gw_98 (gi_c gw_99 (gi_c gw_100 (gi_c gw_101 (gi_c gw_328 (gi_c gw_329 (gi_c gw_330 (gi_c gw_331 gi_nil))))))))))))))))
set_option maxRecDepth 20000 in
theorem gd_wsL_load : GoodIn wsL_law wsL_load := (gi_c gw_754 (goodIn_app (goodIn_app (goodIn_app (goodIn_app (goodIn_app (goodIn_app (goodIn_app (goodIn_app gd_wsL_load_r1 (goodIn_app gd_wsL_load_r2 gd_wsL_load_r3)) gt_wsX60) gt_wsX20) gt_wsX10) gt_wsX40) gt_wsX50) gs_0) gs_2))
theorem gL_law_L_load : GoodIn wsL_law (va_wsS RL 208 yL_load wsL_load) := goodIn_app (gi_c gw_752 (gi_c gw_753 (gi_c gw_151 gi_nil))) gd_wsL_load
set_option maxRecDepth 20000 in
theorem gd_wsX8_load_r1 : GoodIn wsL_law wsX8_load_r1 := (gi_c gw_116 (gi_c gw_779 (gi_c gw_780 (gi_c gw_781 (gi_c gw_782 (gi_c gw_783 (gi_c gw_784 (gi_c gw_785 (gi_c gw_120 (gi_c gw_121 (gi_c gw_118 (gi_c gw_786 (gi_c gw_787 (gi_c gw_788 (gi_c gw_122 (gi_c gw_287 (gi_c gw_288 (gi_c gw_289 (gi_c gw_5 (gi_c gw_290 (gi_c gw_114 (gi_c gw_173 (gi_c gw_174 (gi_c gw_175 gi_nil))))))))))))))))))))))))
set_option maxRecDepth 20000 in
theorem gd_wsX8_load_r2 : GoodIn wsL_law wsX8_load_r2 := (gi_c gw_113 (gi_c gw_176 (gi_c gw_177 (gi_c gw_291 (gi_c gw_292 (gi_c gw_293 (gi_c gw_178 (gi_c gw_179 (gi_c gw_180 (gi_c gw_181 (gi_c gw_182 (gi_c gw_491 (gi_c gw_492 (gi_c gw_493 (gi_c gw_494 (gi_c gw_187 (gi_c gw_188 (gi_c gw_132 (gi_c gw_336 (gi_c gw_337 (gi_c gw_338 (gi_c gw_339 (gi_c gw_172 (gi_c gw_294 gi_nil))))))))))))))))))))))))
set_option maxRecDepth 20000 in
theorem gd_wsX8_load_r3 : GoodIn wsL_law wsX8_load_r3 := (gi_c gw_295 (gi_c gw_296 (gi_c gw_297 (gi_c gw_298 (gi_c gw_299 (gi_c gw_300 (gi_c gw_301 (gi_c gw_302 (gi_c gw_303 (gi_c gw_304 (gi_c gw_305 (gi_c gw_306 (gi_c gw_307 (gi_c gw_308 (gi_c gw_309 gi_nil)))))))))))))))
set_option maxRecDepth 20000 in
theorem gd_wsX8_load : GoodIn wsL_law wsX8_load := (gi_c gw_778 (goodIn_app (goodIn_app (goodIn_app (goodIn_app (goodIn_app gd_wsX8_load_r1 (goodIn_app gd_wsX8_load_r2 gd_wsX8_load_r3)) gt_wsX80) gt_wsX70) gt_wsJx4a65c0) gs_0))
theorem gL_law_X8_load : GoodIn wsL_law (wsV RL 210 RX8 yX8_load wsX8_load) := goodIn_app (gi_c gw_775 (gi_c gw_776 (gi_c gw_777 (gi_c gw_5 gi_nil)))) gd_wsX8_load
set_option maxRecDepth 20000 in
theorem gd_wsL_aside_r1 : GoodIn wsL_law wsL_aside_r1 := (gi_c gw_153 (gi_c gw_243 (gi_c gw_792 (gi_c gw_793 (gi_c gw_794 (gi_c gw_2 (gi_c gw_795 (gi_c gw_23 (gi_c gw_796 (gi_c gw_797 (gi_c gw_798 (gi_c gw_799 (gi_c gw_800 (gi_c gw_162 (gi_c gw_163 (gi_c gw_801 (gi_c gw_802 (gi_c gw_803 (gi_c gw_22 (gi_c gw_804 (gi_c gw_58 (gi_c gw_258 (gi_c gw_259 (gi_c gw_260 gi_nil))))))))))))))))))))))))
set_option maxRecDepth 20000 in
theorem gd_wsL_aside_r2 : GoodIn wsL_law wsL_aside_r2 := (gi_c gw_261 (gi_c gw_262 gi_nil))
set_option maxRecDepth 20000 in
theorem gd_wsL_aside : GoodIn wsL_law wsL_aside := (gi_c gw_791 (goodIn_app (goodIn_app (goodIn_app (goodIn_app (goodIn_app (goodIn_app gd_wsL_aside_r1 gd_wsL_aside_r2) gt_wsX60) gt_wsX20) gs_0) gs_1) gs_3))
theorem gL_law_L_aside : GoodIn wsL_law (va_wsS RL 211 yL_aside wsL_aside) := goodIn_app (gi_c gw_789 (gi_c gw_790 (gi_c gw_151 gi_nil))) gd_wsL_aside
set_option maxRecDepth 20000 in
theorem gd_wsX8_aside : GoodIn wsL_law wsX8_aside := (gi_c gw_808 (goodIn_app (gi_c gw_784 (gi_c gw_809 (gi_c gw_810 (gi_c gw_811 (gi_c gw_5 (gi_c gw_812 (gi_c gw_122 (gi_c gw_178 (gi_c gw_179 (gi_c gw_180 (gi_c gw_181 (gi_c gw_182 (gi_c gw_291 (gi_c gw_292 (gi_c gw_293 gi_nil))))))))))))))) gt_wsX80))
theorem gL_law_X8_aside : GoodIn wsL_law (wsV RL 213 RX8 yX8_aside wsX8_aside) := goodIn_app (gi_c gw_805 (gi_c gw_806 (gi_c gw_807 (gi_c gw_5 gi_nil)))) gd_wsX8_aside
set_option maxRecDepth 20000 in
theorem gd_wsL_tick_r1 : GoodIn wsL_law wsL_tick_r1 := (gi_c gw_153 (gi_c gw_243 (gi_c gw_816 (gi_c gw_817 (gi_c gw_818 (gi_c gw_2 (gi_c gw_819 (gi_c gw_23 (gi_c gw_797 (gi_c gw_798 (gi_c gw_799 (gi_c gw_800 (gi_c gw_162 (gi_c gw_163 (gi_c gw_801 (gi_c gw_802 (gi_c gw_803 (gi_c gw_22 (gi_c gw_804 (gi_c gw_58 (gi_c gw_258 (gi_c gw_259 (gi_c gw_260 (gi_c gw_261 gi_nil))))))))))))))))))))))))
set_option maxRecDepth 20000 in
theorem gd_wsL_tick_r2 : GoodIn wsL_law wsL_tick_r2 := (gi_c gw_262 (gi_c gw_820 (gi_c gw_821 (gi_c gw_822 (gi_c gw_823 (gi_c gw_59 (gi_c gw_763 (gi_c gw_764 (gi_c gw_765 (gi_c gw_35 (gi_c gw_766 (gi_c gw_106 (gi_c gw_824 (gi_c gw_825 (gi_c gw_826 (gi_c gw_827 (gi_c gw_66 (gi_c gw_67 (gi_c gw_828 (gi_c gw_829 (gi_c gw_830 (gi_c gw_831 (gi_c gw_62 (gi_c gw_832 gi_nil))))))))))))))))))))))))
set_option maxRecDepth 20000 in
theorem gd_wsL_tick_r3 : GoodIn wsL_law wsL_tick_r3 := (gi_c gw_833 (gi_c gw_268 (gi_c gw_269 (gi_c gw_270 (gi_c gw_834 (gi_c gw_835 (gi_c gw_836 (gi_c gw_837 (gi_c gw_51 (gi_c gw_838 (gi_c gw_61 (gi_c gw_839 (gi_c gw_840 (gi_c gw_841 (gi_c gw_842 (gi_c gw_843 (gi_c gw_844 (gi_c gw_845 (gi_c gw_65 (gi_c gw_846 (gi_c gw_847 (gi_c gw_848 (gi_c gw_849 (gi_c gw_850 gi_nil))))))))))))))))))))))))
set_option maxRecDepth 20000 in
theorem gd_wsL_tick_r4 : GoodIn wsL_law wsL_tick_r4 := (gi_c gw_229 (gi_c gw_203 (gi_c gw_230 (gi_c gw_851 (gi_c gw_202 (gi_c gw_204 (gi_c gw_852 (gi_c gw_853 (gi_c gw_353 (gi_c gw_854 (gi_c gw_855 (gi_c gw_856 (gi_c gw_857 (gi_c gw_858 (gi_c gw_53 (gi_c gw_859 (gi_c gw_860 (gi_c gw_861 (gi_c gw_862 (gi_c gw_863 (gi_c gw_60 (gi_c gw_864 (gi_c gw_865 (gi_c gw_866 gi_nil))))))))))))))))))))))))
set_option maxRecDepth 20000 in
theorem gd_wsL_tick_r5 : GoodIn wsL_law wsL_tick_r5 := (gi_c gw_867 (gi_c gw_868 (gi_c gw_869 (gi_c gw_870 (gi_c gw_871 (gi_c gw_872 (gi_c gw_873 (gi_c gw_874 (gi_c gw_875 (gi_c gw_876 (gi_c gw_877 (gi_c gw_63 (gi_c gw_878 (gi_c gw_879 (gi_c gw_880 (gi_c gw_881 (gi_c gw_882 (gi_c gw_883 (gi_c gw_884 (gi_c gw_885 (gi_c gw_886 (gi_c gw_69 (gi_c gw_887 (gi_c gw_95 gi_nil))))))))))))))))))))))))
set_option maxRecDepth 20000 in
theorem gd_wsL_tick_r6 : GoodIn wsL_law wsL_tick_r6 := (gi_c gw_99 (gi_c gw_96 (gi_c gw_92 (gi_c gw_98 (gi_c gw_93 (gi_c gw_888 (gi_c gw_889 (gi_c gw_890 (gi_c gw_891 (gi_c gw_57 (gi_c gw_892 (gi_c gw_893 (gi_c gw_894 (gi_c gw_895 (gi_c gw_56 (gi_c gw_896 (gi_c gw_84 (gi_c gw_897 (gi_c gw_898 (gi_c gw_899 (gi_c gw_900 (gi_c gw_87 (gi_c gw_901 (gi_c gw_902 gi_nil))))))))))))))))))))))))
set_option maxRecDepth 20000 in
theorem gd_wsL_tick_r7 : GoodIn wsL_law wsL_tick_r7 := (gi_c gw_903 (gi_c gw_904 (gi_c gw_64 (gi_c gw_905 (gi_c gw_906 (gi_c gw_907 (gi_c gw_908 (gi_c gw_81 (gi_c gw_82 (gi_c gw_83 (gi_c gw_85 (gi_c gw_909 (gi_c gw_910 (gi_c gw_911 (gi_c gw_912 (gi_c gw_913 (gi_c gw_914 (gi_c gw_915 (gi_c gw_916 (gi_c gw_917 (gi_c gw_918 (gi_c gw_919 gi_nil))))))))))))))))))))))
set_option maxRecDepth 20000 in
theorem gd_wsL_tick : GoodIn wsL_law wsL_tick := (gi_c gw_815 (goodIn_app (goodIn_app (goodIn_app (goodIn_app (goodIn_app (goodIn_app (goodIn_app (goodIn_app (goodIn_app (goodIn_app gd_wsL_tick_r1 (goodIn_app gd_wsL_tick_r2 (goodIn_app gd_wsL_tick_r3 (goodIn_app gd_wsL_tick_r4 (goodIn_app gd_wsL_tick_r5 (goodIn_app gd_wsL_tick_r6 gd_wsL_tick_r7)))))) gt_wsX60) gt_wsX20) gt_wsX10) gt_wsX30) gt_wsX50) gt_wsX40) gs_0) gs_1) gs_3))
theorem gL_law_L_tick : GoodIn wsL_law (va_wsS RL 214 yL_tick wsL_tick) := goodIn_app (gi_c gw_813 (gi_c gw_814 (gi_c gw_151 gi_nil))) gd_wsL_tick
set_option maxRecDepth 20000 in
theorem gd_wsX8_tick_r1 : GoodIn wsL_law wsX8_tick_r1 := (gi_c gw_781 (gi_c gw_122 (gi_c gw_118 (gi_c gw_786 (gi_c gw_788 (gi_c gw_809 (gi_c gw_810 (gi_c gw_811 (gi_c gw_5 (gi_c gw_812 (gi_c gw_178 (gi_c gw_179 (gi_c gw_180 (gi_c gw_181 (gi_c gw_182 (gi_c gw_291 (gi_c gw_292 (gi_c gw_293 (gi_c gw_336 (gi_c gw_337 (gi_c gw_338 (gi_c gw_339 (gi_c gw_114 (gi_c gw_172 gi_nil))))))))))))))))))))))))
set_option maxRecDepth 20000 in
theorem gd_wsX8_tick_r2 : GoodIn wsL_law wsX8_tick_r2 := (gi_c gw_294 (gi_c gw_295 (gi_c gw_296 (gi_c gw_113 (gi_c gw_297 (gi_c gw_177 (gi_c gw_298 (gi_c gw_299 (gi_c gw_300 (gi_c gw_301 (gi_c gw_302 (gi_c gw_303 (gi_c gw_304 (gi_c gw_305 (gi_c gw_306 (gi_c gw_307 (gi_c gw_308 (gi_c gw_309 (gi_c gw_132 (gi_c gw_924 (gi_c gw_925 (gi_c gw_926 (gi_c gw_927 (gi_c gw_120 gi_nil))))))))))))))))))))))))
set_option maxRecDepth 20000 in
theorem gd_wsX8_tick_r3 : GoodIn wsL_law wsX8_tick_r3 := (gi_c gw_784 (gi_c gw_127 (gi_c gw_703 (gi_c gw_782 (gi_c gw_119 (gi_c gw_928 (gi_c gw_229 (gi_c gw_203 (gi_c gw_230 (gi_c gw_739 (gi_c gw_202 (gi_c gw_204 (gi_c gw_121 (gi_c gw_929 (gi_c gw_930 (gi_c gw_931 (gi_c gw_932 (gi_c gw_124 (gi_c gw_785 (gi_c gw_783 (gi_c gw_933 (gi_c gw_853 (gi_c gw_353 (gi_c gw_854 gi_nil))))))))))))))))))))))))
set_option maxRecDepth 20000 in
theorem gd_wsX8_tick_r4 : GoodIn wsL_law wsX8_tick_r4 := (gi_c gw_934 (gi_c gw_935 (gi_c gw_936 (gi_c gw_937 (gi_c gw_938 (gi_c gw_939 (gi_c gw_779 (gi_c gw_787 (gi_c gw_689 (gi_c gw_690 (gi_c gw_940 (gi_c gw_941 (gi_c gw_942 (gi_c gw_943 (gi_c gw_944 (gi_c gw_116 (gi_c gw_446 (gi_c gw_945 (gi_c gw_946 (gi_c gw_947 (gi_c gw_948 (gi_c gw_780 (gi_c gw_39 (gi_c gw_173 gi_nil))))))))))))))))))))))))
set_option maxRecDepth 20000 in
theorem gd_wsX8_tick_r5 : GoodIn wsL_law wsX8_tick_r5 := (gi_c gw_174 (gi_c gw_175 (gi_c gw_176 (gi_c gw_183 (gi_c gw_184 (gi_c gw_185 (gi_c gw_186 (gi_c gw_187 (gi_c gw_188 (gi_c gw_189 (gi_c gw_190 (gi_c gw_191 (gi_c gw_192 (gi_c gw_193 (gi_c gw_194 (gi_c gw_195 (gi_c gw_196 (gi_c gw_197 (gi_c gw_198 (gi_c gw_199 (gi_c gw_200 (gi_c gw_131 (gi_c gw_201 (gi_c gw_205 gi_nil))))))))))))))))))))))))
set_option maxRecDepth 20000 in
theorem gd_wsX8_tick_r6 : GoodIn wsL_law wsX8_tick_r6 := (gi_c gw_206 (gi_c gw_207 (gi_c gw_208 (gi_c gw_209 (gi_c gw_210 (gi_c gw_211 (gi_c gw_212 (gi_c gw_213 (gi_c gw_214 (gi_c gw_215 (gi_c gw_216 (gi_c gw_217 (gi_c gw_218 (gi_c gw_219 (gi_c gw_220 (gi_c gw_221 (gi_c gw_222 (gi_c gw_223 (gi_c gw_224 (gi_c gw_225 (gi_c gw_226 (gi_c gw_227 (gi_c gw_228 (gi_c gw_231 gi_nil))))))))))))))))))))))))
set_option maxRecDepth 20000 in
theorem gd_wsX8_tick_r7 : GoodIn wsL_law wsX8_tick_r7 := (gi_c gw_232 (gi_c gw_233 (gi_c gw_234 gi_nil)))
set_option maxRecDepth 20000 in
theorem gd_wsX8_tick : GoodIn wsL_law wsX8_tick := (gi_c gw_923 (goodIn_app (goodIn_app (goodIn_app (goodIn_app (goodIn_app gd_wsX8_tick_r1 (goodIn_app gd_wsX8_tick_r2 (goodIn_app gd_wsX8_tick_r3 (goodIn_app gd_wsX8_tick_r4 (goodIn_app gd_wsX8_tick_r5 (goodIn_app gd_wsX8_tick_r6 gd_wsX8_tick_r7)))))) gt_wsX80) gt_wsX70) gt_wsJx4a65c0) gs_0))
theorem gL_law_X8_tick : GoodIn wsL_law (wsV RL 216 RX8 yX8_tick wsX8_tick) := goodIn_app (gi_c gw_920 (gi_c gw_921 (gi_c gw_922 (gi_c gw_5 gi_nil)))) gd_wsX8_tick
set_option maxRecDepth 20000 in
theorem gd_wsX6_isPlaying : GoodIn wsL_law wsX6_isPlaying := (gi_c gw_952 (goodIn_app (goodIn_app (gi_c gw_23 (gi_c gw_801 (gi_c gw_802 (gi_c gw_803 (gi_c gw_22 (gi_c gw_804 (gi_c gw_58 gi_nil))))))) gt_wsX60) gt_wsX20))
theorem gL_law_X6_isPlaying : GoodIn wsL_law (wsV RL 217 RX6 yX6_isPlaying wsX6_isPlaying) := goodIn_app (gi_c gw_949 (gi_c gw_950 (gi_c gw_951 (gi_c gw_2 gi_nil)))) gd_wsX6_isPlaying
set_option maxRecDepth 20000 in
theorem gd_wsX8_isPlaying : GoodIn wsL_law wsX8_isPlaying := (gi_c gw_956 (goodIn_app (gi_c gw_122 gi_nil) gt_wsX80))
theorem gL_law_X8_isPlaying : GoodIn wsL_law (wsV RL 221 RX8 yX8_isPlaying wsX8_isPlaying) := goodIn_app (gi_c gw_953 (gi_c gw_954 (gi_c gw_955 (gi_c gw_5 gi_nil)))) gd_wsX8_isPlaying
set_option maxRecDepth 20000 in
theorem gd_wsL_row : GoodIn wsL_law wsL_row := (gi_c gw_959 (goodIn_app (goodIn_app (goodIn_app (goodIn_app (gi_c gw_153 (gi_c gw_960 (gi_c gw_961 (gi_c gw_962 (gi_c gw_2 (gi_c gw_963 (gi_c gw_23 (gi_c gw_964 (gi_c gw_797 (gi_c gw_798 (gi_c gw_799 (gi_c gw_800 (gi_c gw_162 (gi_c gw_163 (gi_c gw_801 (gi_c gw_802 (gi_c gw_803 (gi_c gw_22 (gi_c gw_804 (gi_c gw_58 gi_nil)))))))))))))))))))) gt_wsX60) gt_wsX20) gs_0) gs_1))
theorem gL_law_L_row : GoodIn wsL_law (va_wsS RL 222 yL_row wsL_row) := goodIn_app (gi_c gw_957 (gi_c gw_958 (gi_c gw_151 gi_nil))) gd_wsL_row
set_option maxRecDepth 20000 in
theorem gd_wsX8_row : GoodIn wsL_law wsX8_row := (gi_c gw_968 (goodIn_app (gi_c gw_781 (gi_c gw_809 (gi_c gw_810 (gi_c gw_811 (gi_c gw_5 (gi_c gw_812 (gi_c gw_122 (gi_c gw_178 (gi_c gw_179 (gi_c gw_180 (gi_c gw_181 (gi_c gw_182 gi_nil)))))))))))) gt_wsX80))
theorem gL_law_X8_row : GoodIn wsL_law (wsV RL 224 RX8 yX8_row wsX8_row) := goodIn_app (gi_c gw_965 (gi_c gw_966 (gi_c gw_967 (gi_c gw_5 gi_nil)))) gd_wsX8_row
set_option maxRecDepth 20000 in
theorem gd_wsL_suction : GoodIn wsL_law wsL_suction := (gi_c gw_971 (goodIn_app (goodIn_app (goodIn_app (goodIn_app (gi_c gw_153 (gi_c gw_972 (gi_c gw_973 (gi_c gw_974 (gi_c gw_2 (gi_c gw_975 (gi_c gw_23 (gi_c gw_976 (gi_c gw_797 (gi_c gw_798 (gi_c gw_799 (gi_c gw_800 (gi_c gw_162 (gi_c gw_163 (gi_c gw_801 (gi_c gw_802 (gi_c gw_803 (gi_c gw_22 (gi_c gw_804 (gi_c gw_58 gi_nil)))))))))))))))))))) gt_wsX60) gt_wsX20) gs_0) gs_1))
theorem gL_law_L_suction : GoodIn wsL_law (va_wsS RL 225 yL_suction wsL_suction) := goodIn_app (gi_c gw_969 (gi_c gw_970 (gi_c gw_151 gi_nil))) gd_wsL_suction
set_option maxRecDepth 20000 in
theorem gd_wsX8_suction : GoodIn wsL_law wsX8_suction := (gi_c gw_980 (goodIn_app (gi_c gw_782 (gi_c gw_809 (gi_c gw_810 (gi_c gw_811 (gi_c gw_5 (gi_c gw_812 (gi_c gw_122 (gi_c gw_178 (gi_c gw_179 (gi_c gw_180 (gi_c gw_181 (gi_c gw_182 gi_nil)))))))))))) gt_wsX80))
theorem gL_law_X8_suction : GoodIn wsL_law (wsV RL 227 RX8 yX8_suction wsX8_suction) := goodIn_app (gi_c gw_977 (gi_c gw_978 (gi_c gw_979 (gi_c gw_5 gi_nil)))) gd_wsX8_suction
set_option maxRecDepth 20000 in
theorem gd_wsL_level : GoodIn wsL_law wsL_level := (gi_c gw_983 (goodIn_app (goodIn_app (goodIn_app (goodIn_app (gi_c gw_153 (gi_c gw_984 (gi_c gw_985 (gi_c gw_986 (gi_c gw_2 (gi_c gw_987 (gi_c gw_23 (gi_c gw_988 (gi_c gw_797 (gi_c gw_798 (gi_c gw_799 (gi_c gw_800 (gi_c gw_162 (gi_c gw_163 (gi_c gw_801 (gi_c gw_802 (gi_c gw_803 (gi_c gw_22 (gi_c gw_804 (gi_c gw_58 gi_nil)))))))))))))))))))) gt_wsX60) gt_wsX20) gs_0) gs_1))
theorem gL_law_L_level : GoodIn wsL_law (va_wsS RL 228 yL_level wsL_level) := goodIn_app (gi_c gw_981 (gi_c gw_982 (gi_c gw_151 gi_nil))) gd_wsL_level
set_option maxRecDepth 20000 in
theorem gd_wsX8_level : GoodIn wsL_law wsX8_level := (gi_c gw_992 (goodIn_app (gi_c gw_783 (gi_c gw_809 (gi_c gw_810 (gi_c gw_811 (gi_c gw_5 (gi_c gw_812 (gi_c gw_122 (gi_c gw_178 (gi_c gw_179 (gi_c gw_180 (gi_c gw_181 (gi_c gw_182 gi_nil)))))))))))) gt_wsX80))
theorem gL_law_X8_level : GoodIn wsL_law (wsV RL 230 RX8 yX8_level wsX8_level) := goodIn_app (gi_c gw_989 (gi_c gw_990 (gi_c gw_991 (gi_c gw_5 gi_nil)))) gd_wsX8_level
set_option maxRecDepth 20000 in
theorem gd_wsL_isOpen_r1 : GoodIn wsL_law wsL_isOpen_r1 := (gi_c gw_153 (gi_c gw_242 (gi_c gw_996 (gi_c gw_997 (gi_c gw_998 (gi_c gw_2 (gi_c gw_999 (gi_c gw_1000 (gi_c gw_797 (gi_c gw_798 (gi_c gw_799 (gi_c gw_800 (gi_c gw_162 (gi_c gw_163 (gi_c gw_23 (gi_c gw_801 (gi_c gw_802 (gi_c gw_803 (gi_c gw_22 (gi_c gw_804 (gi_c gw_58 (gi_c gw_681 (gi_c gw_682 (gi_c gw_683 gi_nil))))))))))))))))))))))))
set_option maxRecDepth 20000 in
theorem gd_wsL_isOpen_r2 : GoodIn wsL_law wsL_isOpen_r2 := (gi_c gw_684 (gi_c gw_252 (gi_c gw_253 (gi_c gw_27 gi_nil))))
set_option maxRecDepth 20000 in
theorem gd_wsL_isOpen : GoodIn wsL_law wsL_isOpen := (gi_c gw_995 (goodIn_app (goodIn_app (goodIn_app (goodIn_app (goodIn_app (goodIn_app (goodIn_app gd_wsL_isOpen_r1 gd_wsL_isOpen_r2) gt_wsX50) gt_wsX60) gt_wsX20) gs_0) gs_1) gs_2))
theorem gL_law_L_isOpen : GoodIn wsL_law (va_wsS RL 231 yL_isOpen wsL_isOpen) := goodIn_app (gi_c gw_993 (gi_c gw_994 (gi_c gw_151 gi_nil))) gd_wsL_isOpen
set_option maxRecDepth 20000 in
theorem gd_wsX8_isOpen : GoodIn wsL_law wsX8_isOpen := (gi_c gw_1004 (goodIn_app (goodIn_app (gi_c gw_118 (gi_c gw_786 (gi_c gw_809 (gi_c gw_810 (gi_c gw_811 (gi_c gw_5 (gi_c gw_812 (gi_c gw_122 (gi_c gw_178 (gi_c gw_179 (gi_c gw_180 (gi_c gw_181 (gi_c gw_182 (gi_c gw_447 (gi_c gw_448 (gi_c gw_449 (gi_c gw_291 (gi_c gw_292 (gi_c gw_293 gi_nil))))))))))))))))))) gt_wsX80) gt_wsX70))
theorem gL_law_X8_isOpen : GoodIn wsL_law (wsV RL 233 RX8 yX8_isOpen wsX8_isOpen) := goodIn_app (gi_c gw_1001 (gi_c gw_1002 (gi_c gw_1003 (gi_c gw_5 gi_nil)))) gd_wsX8_isOpen
set_option maxRecDepth 20000 in
theorem gd_wsL_isHeard_r1 : GoodIn wsL_law wsL_isHeard_r1 := (gi_c gw_153 (gi_c gw_242 (gi_c gw_1008 (gi_c gw_1009 (gi_c gw_1010 (gi_c gw_2 (gi_c gw_1011 (gi_c gw_797 (gi_c gw_798 (gi_c gw_799 (gi_c gw_800 (gi_c gw_162 (gi_c gw_163 (gi_c gw_23 (gi_c gw_801 (gi_c gw_802 (gi_c gw_803 (gi_c gw_22 (gi_c gw_804 (gi_c gw_58 (gi_c gw_681 (gi_c gw_682 (gi_c gw_683 (gi_c gw_684 gi_nil))))))))))))))))))))))))
set_option maxRecDepth 20000 in
theorem gd_wsL_isHeard_r2 : GoodIn wsL_law wsL_isHeard_r2 := (gi_c gw_252 (gi_c gw_253 (gi_c gw_27 (gi_c gw_1012 (gi_c gw_1013 (gi_c gw_1014 (gi_c gw_69 (gi_c gw_1015 (gi_c gw_99 (gi_c gw_100 gi_nil))))))))))
set_option maxRecDepth 20000 in
theorem gd_wsL_isHeard : GoodIn wsL_law wsL_isHeard := (gi_c gw_1007 (goodIn_app (goodIn_app (goodIn_app (goodIn_app (goodIn_app (goodIn_app (goodIn_app gd_wsL_isHeard_r1 gd_wsL_isHeard_r2) gt_wsX60) gt_wsX20) gt_wsX50) gs_0) gs_1) gs_2))
theorem gL_law_L_isHeard : GoodIn wsL_law (va_wsS RL 234 yL_isHeard wsL_isHeard) := goodIn_app (gi_c gw_1005 (gi_c gw_1006 (gi_c gw_151 gi_nil))) gd_wsL_isHeard
set_option maxRecDepth 20000 in
theorem gd_wsX8_isHeard : GoodIn wsL_law wsX8_isHeard := (gi_c gw_1019 (goodIn_app (goodIn_app (gi_c gw_118 (gi_c gw_788 (gi_c gw_809 (gi_c gw_810 (gi_c gw_811 (gi_c gw_5 (gi_c gw_812 (gi_c gw_122 (gi_c gw_178 (gi_c gw_179 (gi_c gw_180 (gi_c gw_181 (gi_c gw_182 (gi_c gw_447 (gi_c gw_448 (gi_c gw_449 (gi_c gw_291 (gi_c gw_292 (gi_c gw_293 gi_nil))))))))))))))))))) gt_wsX80) gt_wsX70))
theorem gL_law_X8_isHeard : GoodIn wsL_law (wsV RL 236 RX8 yX8_isHeard wsX8_isHeard) := goodIn_app (gi_c gw_1016 (gi_c gw_1017 (gi_c gw_1018 (gi_c gw_5 gi_nil)))) gd_wsX8_isHeard
set_option maxRecDepth 20000 in
theorem gd_wsX6_soundings : GoodIn wsL_law wsX6_soundings := (gi_c gw_1023 (goodIn_app (goodIn_app (gi_c gw_29 (gi_c gw_1024 gi_nil)) gt_wsX60) gt_wsX40))
theorem gL_law_X6_soundings : GoodIn wsL_law (wsV RL 237 RX6 yX6_soundings wsX6_soundings) := goodIn_app (gi_c gw_1020 (gi_c gw_1021 (gi_c gw_1022 (gi_c gw_2 gi_nil)))) gd_wsX6_soundings
set_option maxRecDepth 20000 in
theorem gd_wsX8_soundings : GoodIn wsL_law wsX8_soundings := (gi_c gw_1028 (goodIn_app (goodIn_app (gi_c gw_116 (gi_c gw_173 (gi_c gw_174 (gi_c gw_175 (gi_c gw_113 (gi_c gw_176 (gi_c gw_177 gi_nil))))))) gt_wsX80) gt_wsJx4a65c0))
theorem gL_law_X8_soundings : GoodIn wsL_law (wsV RL 240 RX8 yX8_soundings wsX8_soundings) := goodIn_app (gi_c gw_1025 (gi_c gw_1026 (gi_c gw_1027 (gi_c gw_5 gi_nil)))) gd_wsX8_soundings
set_option maxRecDepth 20000 in
theorem gd_wsL_sounding_r1 : GoodIn wsL_law wsL_sounding_r1 := (gi_c gw_243 (gi_c gw_409 (gi_c gw_1032 (gi_c gw_1033 (gi_c gw_1034 (gi_c gw_2 (gi_c gw_1035 (gi_c gw_261 (gi_c gw_262 (gi_c gw_414 (gi_c gw_415 (gi_c gw_29 (gi_c gw_1036 (gi_c gw_898 (gi_c gw_899 (gi_c gw_56 (gi_c gw_900 (gi_c gw_87 (gi_c gw_1037 (gi_c gw_1038 (gi_c gw_1039 (gi_c gw_1040 (gi_c gw_81 (gi_c gw_82 gi_nil))))))))))))))))))))))))
set_option maxRecDepth 20000 in
theorem gd_wsL_sounding_r2 : GoodIn wsL_law wsL_sounding_r2 := (gi_c gw_83 (gi_c gw_84 (gi_c gw_85 (gi_c gw_897 gi_nil))))
set_option maxRecDepth 20000 in
theorem gd_wsL_sounding : GoodIn wsL_law wsL_sounding := (gi_c gw_1031 (goodIn_app (goodIn_app (goodIn_app (goodIn_app (goodIn_app (goodIn_app gd_wsL_sounding_r1 gd_wsL_sounding_r2) gt_wsX60) gt_wsX40) gs_0) gs_3) gs_4))
theorem gL_law_L_sounding : GoodIn wsL_law (va_wsS RL 241 yL_sounding wsL_sounding) := goodIn_app (gi_c gw_1029 (gi_c gw_1030 (gi_c gw_151 gi_nil))) gd_wsL_sounding
set_option maxRecDepth 20000 in
theorem gd_wsX8_sounding_r1 : GoodIn wsL_law wsX8_sounding_r1 := (gi_c gw_116 (gi_c gw_446 (gi_c gw_565 (gi_c gw_566 (gi_c gw_567 (gi_c gw_568 (gi_c gw_569 (gi_c gw_570 (gi_c gw_571 (gi_c gw_572 (gi_c gw_573 (gi_c gw_574 (gi_c gw_575 (gi_c gw_576 (gi_c gw_577 (gi_c gw_578 (gi_c gw_579 (gi_c gw_580 (gi_c gw_581 (gi_c gw_582 (gi_c gw_583 (gi_c gw_584 (gi_c gw_585 (gi_c gw_586 gi_nil))))))))))))))))))))))))
set_option maxRecDepth 20000 in
theorem gd_wsX8_sounding_r2 : GoodIn wsL_law wsX8_sounding_r2 := (gi_c gw_587 (gi_c gw_588 (gi_c gw_589 (gi_c gw_590 (gi_c gw_591 (gi_c gw_592 (gi_c gw_593 (gi_c gw_202 (gi_c gw_203 (gi_c gw_204 (gi_c gw_594 (gi_c gw_229 (gi_c gw_230 (gi_c gw_595 (gi_c gw_596 (gi_c gw_597 (gi_c gw_598 (gi_c gw_599 (gi_c gw_600 (gi_c gw_601 (gi_c gw_602 (gi_c gw_603 (gi_c gw_604 (gi_c gw_605 gi_nil))))))))))))))))))))))))
set_option maxRecDepth 20000 in
theorem gd_wsX8_sounding_r3 : GoodIn wsL_law wsX8_sounding_r3 := (gi_c gw_606 (gi_c gw_607 (gi_c gw_608 (gi_c gw_609 (gi_c gw_610 (gi_c gw_611 (gi_c gw_612 (gi_c gw_613 (gi_c gw_614 (gi_c gw_615 (gi_c gw_616 (gi_c gw_617 (gi_c gw_618 (gi_c gw_619 (gi_c gw_620 (gi_c gw_621 (gi_c gw_622 (gi_c gw_304 (gi_c gw_623 (gi_c gw_624 (gi_c gw_625 (gi_c gw_626 (gi_c gw_627 (gi_c gw_628 gi_nil))))))))))))))))))))))))
set_option maxRecDepth 20000 in
theorem gd_wsX8_sounding_r4 : GoodIn wsL_law wsX8_sounding_r4 := (gi_c gw_629 (gi_c gw_630 (gi_c gw_631 (gi_c gw_632 (gi_c gw_633 (gi_c gw_634 (gi_c gw_635 (gi_c gw_636 (gi_c gw_637 (gi_c gw_638 (gi_c gw_639 (gi_c gw_640 (gi_c gw_641 (gi_c gw_642 (gi_c gw_643 (gi_c gw_644 (gi_c gw_645 (gi_c gw_646 (gi_c gw_647 (gi_c gw_178 (gi_c gw_179 (gi_c gw_180 (gi_c gw_5 (gi_c gw_181 gi_nil))))))))))))))))))))))))
set_option maxRecDepth 20000 in
theorem gd_wsX8_sounding_r5 : GoodIn wsL_law wsX8_sounding_r5 := (gi_c gw_182 (gi_c gw_173 (gi_c gw_174 (gi_c gw_175 (gi_c gw_113 (gi_c gw_176 (gi_c gw_177 (gi_c gw_291 (gi_c gw_292 (gi_c gw_293 (gi_c gw_294 (gi_c gw_295 (gi_c gw_296 (gi_c gw_297 (gi_c gw_298 (gi_c gw_299 (gi_c gw_300 (gi_c gw_301 (gi_c gw_302 (gi_c gw_303 (gi_c gw_305 (gi_c gw_306 (gi_c gw_307 (gi_c gw_308 gi_nil))))))))))))))))))))))))
set_option maxRecDepth 20000 in
theorem gd_wsX8_sounding_r6 : GoodIn wsL_law wsX8_sounding_r6 := (gi_c gw_309 (gi_c gw_132 gi_nil))
set_option maxRecDepth 20000 in
theorem gd_wsX8_sounding : GoodIn wsL_law wsX8_sounding := (gi_c gw_1044 (goodIn_app (goodIn_app (goodIn_app (goodIn_app (goodIn_app gd_wsX8_sounding_r1 (goodIn_app gd_wsX8_sounding_r2 (goodIn_app gd_wsX8_sounding_r3 (goodIn_app gd_wsX8_sounding_r4 (goodIn_app gd_wsX8_sounding_r5 gd_wsX8_sounding_r6))))) gt_wsX80) gt_wsJ00) gt_wsJx4a65c0) gs_0))
theorem gL_law_X8_sounding : GoodIn wsL_law (wsV RL 244 RX8 yX8_sounding wsX8_sounding) := goodIn_app (gi_c gw_1041 (gi_c gw_1042 (gi_c gw_1043 (gi_c gw_5 gi_nil)))) gd_wsX8_sounding
set_option maxRecDepth 20000 in
theorem gd_wsL_loudest : GoodIn wsL_law wsL_loudest := (gi_c gw_1047 (goodIn_app (goodIn_app (goodIn_app (goodIn_app (gi_c gw_409 (gi_c gw_1048 (gi_c gw_1049 (gi_c gw_1050 (gi_c gw_2 (gi_c gw_1051 (gi_c gw_414 (gi_c gw_415 (gi_c gw_29 (gi_c gw_1024 (gi_c gw_1052 (gi_c gw_1053 (gi_c gw_1054 (gi_c gw_56 (gi_c gw_1055 (gi_c gw_87 (gi_c gw_85 gi_nil))))))))))))))))) gt_wsX60) gt_wsX40) gs_0) gs_4))
theorem gL_law_L_loudest : GoodIn wsL_law (va_wsS RL 245 yL_loudest wsL_loudest) := goodIn_app (gi_c gw_1045 (gi_c gw_1046 (gi_c gw_151 gi_nil))) gd_wsL_loudest
set_option maxRecDepth 20000 in
theorem gd_wsX8_loudest_r1 : GoodIn wsL_law wsX8_loudest_r1 := (gi_c gw_116 (gi_c gw_446 (gi_c gw_173 (gi_c gw_174 (gi_c gw_175 (gi_c gw_113 (gi_c gw_176 (gi_c gw_177 (gi_c gw_294 (gi_c gw_295 (gi_c gw_296 (gi_c gw_297 (gi_c gw_298 (gi_c gw_299 (gi_c gw_300 (gi_c gw_301 (gi_c gw_302 (gi_c gw_303 (gi_c gw_304 (gi_c gw_305 (gi_c gw_306 (gi_c gw_307 (gi_c gw_308 (gi_c gw_309 gi_nil))))))))))))))))))))))))
set_option maxRecDepth 20000 in
theorem gd_wsX8_loudest_r2 : GoodIn wsL_law wsX8_loudest_r2 := (gi_c gw_132 (gi_c gw_1060 (gi_c gw_1061 (gi_c gw_1062 (gi_c gw_1063 (gi_c gw_178 (gi_c gw_179 (gi_c gw_180 (gi_c gw_5 (gi_c gw_181 (gi_c gw_182 gi_nil)))))))))))
set_option maxRecDepth 20000 in
theorem gd_wsX8_loudest : GoodIn wsL_law wsX8_loudest := (gi_c gw_1059 (goodIn_app (goodIn_app (goodIn_app (goodIn_app gd_wsX8_loudest_r1 gd_wsX8_loudest_r2) gt_wsX80) gt_wsJx4a65c0) gs_0))
theorem gL_law_X8_loudest : GoodIn wsL_law (wsV RL 247 RX8 yX8_loudest wsX8_loudest) := goodIn_app (gi_c gw_1056 (gi_c gw_1057 (gi_c gw_1058 (gi_c gw_5 gi_nil)))) gd_wsX8_loudest
set_option maxRecDepth 20000 in
theorem gd_wsL_speed : GoodIn wsL_law wsL_speed := (gi_c gw_1066 (goodIn_app (goodIn_app (goodIn_app (gi_c gw_243 (gi_c gw_1067 (gi_c gw_1068 (gi_c gw_1069 (gi_c gw_2 (gi_c gw_1070 (gi_c gw_32 (gi_c gw_33 (gi_c gw_258 (gi_c gw_259 (gi_c gw_260 (gi_c gw_261 (gi_c gw_262 gi_nil))))))))))))) gt_wsX60) gs_0) gs_3))
theorem gL_law_L_speed : GoodIn wsL_law (va_wsS RL 248 yL_speed wsL_speed) := goodIn_app (gi_c gw_1064 (gi_c gw_1065 (gi_c gw_151 gi_nil))) gd_wsL_speed
set_option maxRecDepth 20000 in
theorem gd_wsX8_speed : GoodIn wsL_law wsX8_speed := (gi_c gw_1074 (goodIn_app (gi_c gw_123 (gi_c gw_1075 (gi_c gw_291 (gi_c gw_292 (gi_c gw_5 (gi_c gw_293 (gi_c gw_178 (gi_c gw_179 (gi_c gw_180 (gi_c gw_181 (gi_c gw_182 gi_nil))))))))))) gt_wsX80))
theorem gL_law_X8_speed : GoodIn wsL_law (wsV RL 250 RX8 yX8_speed wsX8_speed) := goodIn_app (gi_c gw_1071 (gi_c gw_1072 (gi_c gw_1073 (gi_c gw_5 gi_nil)))) gd_wsX8_speed
set_option maxRecDepth 20000 in
theorem gd_wsL_time : GoodIn wsL_law wsL_time := (gi_c gw_1078 (goodIn_app (goodIn_app (goodIn_app (goodIn_app (gi_c gw_243 (gi_c gw_1079 (gi_c gw_1080 (gi_c gw_1081 (gi_c gw_2 (gi_c gw_1082 (gi_c gw_258 (gi_c gw_259 (gi_c gw_260 (gi_c gw_261 (gi_c gw_262 (gi_c gw_1083 (gi_c gw_1084 (gi_c gw_1085 (gi_c gw_1086 (gi_c gw_32 (gi_c gw_33 (gi_c gw_1087 gi_nil)))))))))))))))))) gt_wsX60) gs_0) gs_3) gs_6))
theorem gL_law_L_time : GoodIn wsL_law (va_wsS RL 251 yL_time wsL_time) := goodIn_app (gi_c gw_1076 (gi_c gw_1077 (gi_c gw_151 gi_nil))) gd_wsL_time
set_option maxRecDepth 20000 in
theorem gd_wsX8_time : GoodIn wsL_law wsX8_time := (gi_c gw_1091 (goodIn_app (goodIn_app (gi_c gw_928 (gi_c gw_229 (gi_c gw_203 (gi_c gw_230 (gi_c gw_1092 (gi_c gw_123 (gi_c gw_1075 (gi_c gw_291 (gi_c gw_292 (gi_c gw_5 (gi_c gw_293 (gi_c gw_178 (gi_c gw_179 (gi_c gw_180 (gi_c gw_181 (gi_c gw_182 gi_nil)))))))))))))))) gt_wsX80) gs_6))
theorem gL_law_X8_time : GoodIn wsL_law (wsV RL 253 RX8 yX8_time wsX8_time) := goodIn_app (gi_c gw_1088 (gi_c gw_1089 (gi_c gw_1090 (gi_c gw_5 gi_nil)))) gd_wsX8_time
set_option maxRecDepth 20000 in
theorem gd_wsX6_checksum_r1 : GoodIn wsL_law wsX6_checksum_r1 := (gi_c gw_1097 (gi_c gw_30 (gi_c gw_15 (gi_c gw_29 (gi_c gw_1098 (gi_c gw_1099 (gi_c gw_1100 (gi_c gw_35 (gi_c gw_1101 (gi_c gw_106 (gi_c gw_1102 (gi_c gw_1103 (gi_c gw_1104 (gi_c gw_1105 (gi_c gw_1106 (gi_c gw_560 (gi_c gw_264 (gi_c gw_265 (gi_c gw_266 (gi_c gw_267 (gi_c gw_268 (gi_c gw_269 (gi_c gw_270 (gi_c gw_1107 gi_nil))))))))))))))))))))))))
set_option maxRecDepth 20000 in
theorem gd_wsX6_checksum_r2 : GoodIn wsL_law wsX6_checksum_r2 := (gi_c gw_1108 (gi_c gw_1109 (gi_c gw_56 (gi_c gw_1110 (gi_c gw_87 (gi_c gw_1111 (gi_c gw_81 (gi_c gw_83 (gi_c gw_85 gi_nil)))))))))
set_option maxRecDepth 20000 in
theorem gd_wsX6_checksum : GoodIn wsL_law wsX6_checksum := (gi_c gw_1096 (goodIn_app (goodIn_app (goodIn_app (goodIn_app (goodIn_app gd_wsX6_checksum_r1 gd_wsX6_checksum_r2) gt_wsX60) gt_wsX10) gt_wsX40) gs_0))
theorem gL_law_X6_checksum : GoodIn wsL_law (wsV RL 254 RX6 yX6_checksum wsX6_checksum) := goodIn_app (gi_c gw_1093 (gi_c gw_1094 (gi_c gw_1095 (gi_c gw_2 gi_nil)))) gd_wsX6_checksum
set_option maxRecDepth 20000 in
theorem gd_wsX8_checksum_r1 : GoodIn wsL_law wsX8_checksum_r1 := (gi_c gw_1116 (gi_c gw_114 (gi_c gw_172 (gi_c gw_1117 (gi_c gw_116 (gi_c gw_446 (gi_c gw_450 (gi_c gw_451 (gi_c gw_452 (gi_c gw_113 (gi_c gw_453 (gi_c gw_454 (gi_c gw_455 (gi_c gw_456 (gi_c gw_457 (gi_c gw_458 (gi_c gw_459 (gi_c gw_460 (gi_c gw_461 (gi_c gw_12 (gi_c gw_13 (gi_c gw_462 (gi_c gw_463 (gi_c gw_188 gi_nil))))))))))))))))))))))))
set_option maxRecDepth 20000 in
theorem gd_wsX8_checksum_r2 : GoodIn wsL_law wsX8_checksum_r2 := (gi_c gw_464 (gi_c gw_465 (gi_c gw_466 (gi_c gw_467 (gi_c gw_468 (gi_c gw_469 (gi_c gw_470 (gi_c gw_471 (gi_c gw_472 (gi_c gw_473 (gi_c gw_474 (gi_c gw_475 (gi_c gw_476 (gi_c gw_477 (gi_c gw_478 gi_nil)))))))))))))))
set_option maxRecDepth 20000 in
theorem gd_wsX8_checksum : GoodIn wsL_law wsX8_checksum := (gi_c gw_1115 (goodIn_app (goodIn_app (goodIn_app (goodIn_app (goodIn_app gd_wsX8_checksum_r1 gd_wsX8_checksum_r2) gt_wsX80) gt_wsJx354110) gt_wsJx4a65c0) gs_0))
theorem gL_law_X8_checksum : GoodIn wsL_law (wsV RL 258 RX8 yX8_checksum wsX8_checksum) := goodIn_app (gi_c gw_1112 (gi_c gw_1113 (gi_c gw_1114 (gi_c gw_5 gi_nil)))) gd_wsX8_checksum
set_option maxRecDepth 20000 in
theorem gd_wsL_heardShare : GoodIn wsL_law wsL_heardShare := (gi_c gw_1120 (goodIn_app (goodIn_app (goodIn_app (goodIn_app (gi_c gw_1121 (gi_c gw_1122 (gi_c gw_1123 (gi_c gw_1124 (gi_c gw_2 (gi_c gw_1125 (gi_c gw_1126 (gi_c gw_1127 (gi_c gw_23 (gi_c gw_1128 (gi_c gw_1129 gi_nil))))))))))) gt_wsX60) gt_wsX20) gs_0) gs_7))
theorem gL_law_L_heardShare : GoodIn wsL_law (va_wsS RL 259 yL_heardShare wsL_heardShare) := goodIn_app (gi_c gw_1118 (gi_c gw_1119 (gi_c gw_151 gi_nil))) gd_wsL_heardShare
set_option maxRecDepth 20000 in
theorem gd_wsX8_heardShare : GoodIn wsL_law wsX8_heardShare := (gi_c gw_1133 (goodIn_app (gi_c gw_779 (gi_c gw_780 (gi_c gw_178 (gi_c gw_179 (gi_c gw_180 (gi_c gw_5 (gi_c gw_181 (gi_c gw_182 gi_nil)))))))) gt_wsX80))
theorem gL_law_X8_heardShare : GoodIn wsL_law (wsV RL 262 RX8 yX8_heardShare wsX8_heardShare) := goodIn_app (gi_c gw_1130 (gi_c gw_1131 (gi_c gw_1132 (gi_c gw_5 gi_nil)))) gd_wsX8_heardShare
set_option maxRecDepth 20000 in
theorem gd_wsL_meanLoud : GoodIn wsL_law wsL_meanLoud := (gi_c gw_1136 (goodIn_app (goodIn_app (goodIn_app (goodIn_app (gi_c gw_1121 (gi_c gw_1137 (gi_c gw_1138 (gi_c gw_1139 (gi_c gw_2 (gi_c gw_1140 (gi_c gw_1126 (gi_c gw_1127 (gi_c gw_29 (gi_c gw_1024 (gi_c gw_1141 (gi_c gw_1142 (gi_c gw_1143 (gi_c gw_56 (gi_c gw_1144 (gi_c gw_87 (gi_c gw_85 gi_nil))))))))))))))))) gt_wsX60) gt_wsX40) gs_0) gs_7))
theorem gL_law_L_meanLoud : GoodIn wsL_law (va_wsS RL 263 yL_meanLoud wsL_meanLoud) := goodIn_app (gi_c gw_1134 (gi_c gw_1135 (gi_c gw_151 gi_nil))) gd_wsL_meanLoud
set_option maxRecDepth 20000 in
theorem gd_wsX8_meanLoud_r1 : GoodIn wsL_law wsX8_meanLoud_r1 := (gi_c gw_116 (gi_c gw_446 (gi_c gw_450 (gi_c gw_451 (gi_c gw_452 (gi_c gw_113 (gi_c gw_453 (gi_c gw_454 (gi_c gw_455 (gi_c gw_456 (gi_c gw_457 (gi_c gw_458 (gi_c gw_459 (gi_c gw_460 (gi_c gw_461 (gi_c gw_12 (gi_c gw_13 (gi_c gw_462 (gi_c gw_463 (gi_c gw_188 (gi_c gw_464 (gi_c gw_465 (gi_c gw_466 (gi_c gw_467 gi_nil))))))))))))))))))))))))
set_option maxRecDepth 20000 in
theorem gd_wsX8_meanLoud_r2 : GoodIn wsL_law wsX8_meanLoud_r2 := (gi_c gw_468 (gi_c gw_469 (gi_c gw_470 (gi_c gw_471 (gi_c gw_472 (gi_c gw_473 (gi_c gw_474 (gi_c gw_475 (gi_c gw_476 (gi_c gw_477 (gi_c gw_478 (gi_c gw_1060 (gi_c gw_1061 (gi_c gw_1062 (gi_c gw_1063 (gi_c gw_177 (gi_c gw_178 (gi_c gw_179 (gi_c gw_180 (gi_c gw_5 (gi_c gw_181 (gi_c gw_182 (gi_c gw_173 (gi_c gw_174 gi_nil))))))))))))))))))))))))
set_option maxRecDepth 20000 in
theorem gd_wsX8_meanLoud_r3 : GoodIn wsL_law wsX8_meanLoud_r3 := (gi_c gw_175 (gi_c gw_176 gi_nil))
set_option maxRecDepth 20000 in
theorem gd_wsX8_meanLoud : GoodIn wsL_law wsX8_meanLoud := (gi_c gw_1148 (goodIn_app (goodIn_app (goodIn_app (goodIn_app (goodIn_app gd_wsX8_meanLoud_r1 (goodIn_app gd_wsX8_meanLoud_r2 gd_wsX8_meanLoud_r3)) gt_wsX80) gt_wsJx354110) gt_wsJx4a65c0) gs_0))
theorem gL_law_X8_meanLoud : GoodIn wsL_law (wsV RL 265 RX8 yX8_meanLoud wsX8_meanLoud) := goodIn_app (gi_c gw_1145 (gi_c gw_1146 (gi_c gw_1147 (gi_c gw_5 gi_nil)))) gd_wsX8_meanLoud
set_option maxRecDepth 20000 in
theorem gd_wsX6_isSound_r1 : GoodIn wsL_law wsX6_isSound_r1 := (gi_c gw_29 (gi_c gw_1153 (gi_c gw_1154 (gi_c gw_1155 (gi_c gw_56 (gi_c gw_1156 (gi_c gw_86 (gi_c gw_87 (gi_c gw_81 (gi_c gw_83 (gi_c gw_84 (gi_c gw_1157 (gi_c gw_1158 (gi_c gw_1159 (gi_c gw_1160 (gi_c gw_82 (gi_c gw_1161 (gi_c gw_1162 (gi_c gw_1163 (gi_c gw_2 (gi_c gw_1164 (gi_c gw_31 (gi_c gw_19 (gi_c gw_15 gi_nil))))))))))))))))))))))))
set_option maxRecDepth 20000 in
theorem gd_wsX6_isSound_r2 : GoodIn wsL_law wsX6_isSound_r2 := (gi_c gw_254 (gi_c gw_255 (gi_c gw_256 (gi_c gw_257 (gi_c gw_30 (gi_c gw_655 (gi_c gw_656 (gi_c gw_657 (gi_c gw_18 (gi_c gw_658 (gi_c gw_43 (gi_c gw_40 (gi_c gw_42 (gi_c gw_41 (gi_c gw_659 (gi_c gw_527 (gi_c gw_528 (gi_c gw_35 (gi_c gw_529 (gi_c gw_530 (gi_c gw_531 (gi_c gw_532 (gi_c gw_533 (gi_c gw_267 gi_nil))))))))))))))))))))))))
set_option maxRecDepth 20000 in
theorem gd_wsX6_isSound_r3 : GoodIn wsL_law wsX6_isSound_r3 := (gi_c gw_268 (gi_c gw_269 (gi_c gw_270 (gi_c gw_106 (gi_c gw_351 (gi_c gw_352 (gi_c gw_353 (gi_c gw_354 (gi_c gw_355 (gi_c gw_356 (gi_c gw_357 (gi_c gw_660 (gi_c gw_661 (gi_c gw_662 (gi_c gw_663 (gi_c gw_664 (gi_c gw_557 (gi_c gw_558 (gi_c gw_559 (gi_c gw_560 (gi_c gw_264 (gi_c gw_265 (gi_c gw_266 gi_nil)))))))))))))))))))))))
set_option maxRecDepth 20000 in
theorem gd_wsX6_isSound : GoodIn wsL_law wsX6_isSound := (gi_c gw_1152 (goodIn_app (goodIn_app (goodIn_app (goodIn_app (goodIn_app (goodIn_app gd_wsX6_isSound_r1 (goodIn_app gd_wsX6_isSound_r2 gd_wsX6_isSound_r3)) gt_wsX60) gt_wsX40) gt_wsX00) gt_wsX10) gs_0))
theorem gL_law_X6_isSound : GoodIn wsL_law (wsV RL 266 RX6 yX6_isSound wsX6_isSound) := goodIn_app (gi_c gw_1149 (gi_c gw_1150 (gi_c gw_1151 (gi_c gw_2 gi_nil)))) gd_wsX6_isSound
set_option maxRecDepth 20000 in
theorem gd_wsX8_isSound : GoodIn wsL_law wsX8_isSound := (gi_c gw_1168 gi_nil)
theorem gL_law_X8_isSound : GoodIn wsL_law (wsV RL 269 RX8 yX8_isSound wsX8_isSound) := goodIn_app (gi_c gw_1165 (gi_c gw_1166 (gi_c gw_1167 (gi_c gw_5 gi_nil)))) gd_wsX8_isSound
