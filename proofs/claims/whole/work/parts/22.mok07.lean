set_option maxRecDepth 100000 in
theorem mk_232 : mokB tFL tML tCF tKC tKL tCL tOI tAC tSL tMX 12 mm_232 = true := by decide +kernel
theorem mo_232 : mok lw_good gP mm_232 := mokB_ok tabs_ok (oc := 12) (by decide) (by decide) rfl mk_232
set_option maxRecDepth 100000 in
theorem mk_233 : mokB tFL tML tCF tKC tKL tCL tOI tAC tSL tMX 12 mm_233 = true := by decide +kernel
theorem mo_233 : mok lw_good gP mm_233 := mokB_ok tabs_ok (oc := 12) (by decide) (by decide) rfl mk_233
set_option maxRecDepth 100000 in
theorem mk_234 : mokB tFL tML tCF tKC tKL tCL tOI tAC tSL tMX 12 mm_234 = true := by decide +kernel
theorem mo_234 : mok lw_good gP mm_234 := mokB_ok tabs_ok (oc := 12) (by decide) (by decide) rfl mk_234
set_option maxRecDepth 100000 in
theorem mk_235 : mokB tFL tML tCF tKC tKL tCL tOI tAC tSL tMX 12 mm_235 = true := by decide +kernel
theorem mo_235 : mok lw_good gP mm_235 := mokB_ok tabs_ok (oc := 12) (by decide) (by decide) rfl mk_235
set_option maxRecDepth 100000 in
theorem mk_236 : mokB tFL tML tCF tKC tKL tCL tOI tAC tSL tMX 12 mm_236 = true := by decide +kernel
theorem mo_236 : mok lw_good gP mm_236 := mokB_ok tabs_ok (oc := 12) (by decide) (by decide) rfl mk_236
set_option maxRecDepth 100000 in
theorem mk_237 : mokB tFL tML tCF tKC tKL tCL tOI tAC tSL tMX 12 mm_237 = true := by decide +kernel
theorem mo_237 : mok lw_good gP mm_237 := mokB_ok tabs_ok (oc := 12) (by decide) (by decide) rfl mk_237
set_option maxRecDepth 100000 in
theorem mk_238 : mokB tFL tML tCF tKC tKL tCL tOI tAC tSL tMX 12 mm_238 = true := by decide +kernel
theorem mo_238 : mok lw_good gP mm_238 := mokB_ok tabs_ok (oc := 12) (by decide) (by decide) rfl mk_238
set_option maxRecDepth 100000 in
theorem mk_239 : mokB tFL tML tCF tKC tKL tCL tOI tAC tSL tMX 12 mm_239 = true := by decide +kernel
theorem mo_239 : mok lw_good gP mm_239 := mokB_ok tabs_ok (oc := 12) (by decide) (by decide) rfl mk_239
set_option maxRecDepth 100000 in
theorem mk_240 : mokB tFL tML tCF tKC tKL tCL tOI tAC tSL tMX 12 mm_240 = true := by decide +kernel
theorem mo_240 : mok lw_good gP mm_240 := mokB_ok tabs_ok (oc := 12) (by decide) (by decide) rfl mk_240
set_option maxRecDepth 100000 in
theorem mk_241 : mokB tFL tML tCF tKC tKL tCL tOI tAC tSL tMX 12 mm_241 = true := by decide +kernel
theorem mo_241 : mok lw_good gP mm_241 := mokB_ok tabs_ok (oc := 12) (by decide) (by decide) rfl mk_241
set_option maxRecDepth 100000 in
theorem mk_242 : mokB tFL tML tCF tKC tKL tCL tOI tAC tSL tMX 12 mm_242 = true := by decide +kernel
theorem mo_242 : mok lw_good gP mm_242 := mokB_ok tabs_ok (oc := 12) (by decide) (by decide) rfl mk_242
set_option maxRecDepth 100000 in
theorem mk_243 : mokB tFL tML tCF tKC tKL tCL tOI tAC tSL tMX 12 mm_243 = true := by decide +kernel
theorem mo_243 : mok lw_good gP mm_243 := mokB_ok tabs_ok (oc := 12) (by decide) (by decide) rfl mk_243
set_option maxRecDepth 100000 in
theorem mk_244 : mokB tFL tML tCF tKC tKL tCL tOI tAC tSL tMX 12 mm_244 = true := by decide +kernel
theorem mo_244 : mok lw_good gP mm_244 := mokB_ok tabs_ok (oc := 12) (by decide) (by decide) rfl mk_244
set_option maxRecDepth 100000 in
theorem mk_245 : mokB tFL tML tCF tKC tKL tCL tOI tAC tSL tMX 12 mm_245 = true := by decide +kernel
theorem mo_245 : mok lw_good gP mm_245 := mokB_ok tabs_ok (oc := 12) (by decide) (by decide) rfl mk_245
set_option maxRecDepth 100000 in
theorem mk_246 : mokB tFL tML tCF tKC tKL tCL tOI tAC tSL tMX 12 mm_246 = true := by decide +kernel
theorem mo_246 : mok lw_good gP mm_246 := mokB_ok tabs_ok (oc := 12) (by decide) (by decide) rfl mk_246
set_option maxRecDepth 100000 in
theorem mk_247 : mokB tFL tML tCF tKC tKL tCL tOI tAC tSL tMX 12 mm_247 = true := by decide +kernel
theorem mo_247 : mok lw_good gP mm_247 := mokB_ok tabs_ok (oc := 12) (by decide) (by decide) rfl mk_247
set_option maxRecDepth 100000 in
theorem mk_248 : mokB tFL tML tCF tKC tKL tCL tOI tAC tSL tMX 12 mm_248 = true := by decide +kernel
theorem mo_248 : mok lw_good gP mm_248 := mokB_ok tabs_ok (oc := 12) (by decide) (by decide) rfl mk_248
set_option maxRecDepth 100000 in
theorem mk_249 : mokB tFL tML tCF tKC tKL tCL tOI tAC tSL tMX 12 mm_249 = true := by decide +kernel
theorem mo_249 : mok lw_good gP mm_249 := mokB_ok tabs_ok (oc := 12) (by decide) (by decide) rfl mk_249
set_option maxRecDepth 100000 in
theorem mk_250 : mokB tFL tML tCF tKC tKL tCL tOI tAC tSL tMX 12 mm_250 = true := by decide +kernel
theorem mo_250 : mok lw_good gP mm_250 := mokB_ok tabs_ok (oc := 12) (by decide) (by decide) rfl mk_250
set_option maxRecDepth 100000 in
theorem mk_251 : mokB tFL tML tCF tKC tKL tCL tOI tAC tSL tMX 12 mm_251 = true := by decide +kernel
theorem mo_251 : mok lw_good gP mm_251 := mokB_ok tabs_ok (oc := 12) (by decide) (by decide) rfl mk_251
set_option maxRecDepth 100000 in
theorem mk_252 : mokB tFL tML tCF tKC tKL tCL tOI tAC tSL tMX 12 mm_252 = true := by decide +kernel
theorem mo_252 : mok lw_good gP mm_252 := mokB_ok tabs_ok (oc := 12) (by decide) (by decide) rfl mk_252
set_option maxRecDepth 100000 in
theorem mk_253 : mokB tFL tML tCF tKC tKL tCL tOI tAC tSL tMX 12 mm_253 = true := by decide +kernel
theorem mo_253 : mok lw_good gP mm_253 := mokB_ok tabs_ok (oc := 12) (by decide) (by decide) rfl mk_253
set_option maxRecDepth 100000 in
theorem mk_254 : mokB tFL tML tCF tKC tKL tCL tOI tAC tSL tMX 12 mm_254 = true := by decide +kernel
theorem mo_254 : mok lw_good gP mm_254 := mokB_ok tabs_ok (oc := 12) (by decide) (by decide) rfl mk_254
set_option maxRecDepth 100000 in
theorem mk_255 : mokB tFL tML tCF tKC tKL tCL tOI tAC tSL tMX 12 mm_255 = true := by decide +kernel
theorem mo_255 : mok lw_good gP mm_255 := mokB_ok tabs_ok (oc := 12) (by decide) (by decide) rfl mk_255
set_option maxRecDepth 100000 in
theorem mk_256 : mokB tFL tML tCF tKC tKL tCL tOI tAC tSL tMX 12 mm_256 = true := by decide +kernel
theorem mo_256 : mok lw_good gP mm_256 := mokB_ok tabs_ok (oc := 12) (by decide) (by decide) rfl mk_256
set_option maxRecDepth 100000 in
theorem mk_257 : mokB tFL tML tCF tKC tKL tCL tOI tAC tSL tMX 12 mm_257 = true := by decide +kernel
theorem mo_257 : mok lw_good gP mm_257 := mokB_ok tabs_ok (oc := 12) (by decide) (by decide) rfl mk_257
set_option maxRecDepth 100000 in
theorem mk_258 : mokB tFL tML tCF tKC tKL tCL tOI tAC tSL tMX 12 mm_258 = true := by decide +kernel
theorem mo_258 : mok lw_good gP mm_258 := mokB_ok tabs_ok (oc := 12) (by decide) (by decide) rfl mk_258
set_option maxRecDepth 100000 in
theorem mk_259 : mokB tFL tML tCF tKC tKL tCL tOI tAC tSL tMX 12 mm_259 = true := by decide +kernel
theorem mo_259 : mok lw_good gP mm_259 := mokB_ok tabs_ok (oc := 12) (by decide) (by decide) rfl mk_259
set_option maxRecDepth 100000 in
theorem mk_260 : mokB tFL tML tCF tKC tKL tCL tOI tAC tSL tMX 12 mm_260 = true := by decide +kernel
theorem mo_260 : mok lw_good gP mm_260 := mokB_ok tabs_ok (oc := 12) (by decide) (by decide) rfl mk_260
set_option maxRecDepth 100000 in
theorem mk_261 : mokB tFL tML tCF tKC tKL tCL tOI tAC tSL tMX 12 mm_261 = true := by decide +kernel
theorem mo_261 : mok lw_good gP mm_261 := mokB_ok tabs_ok (oc := 12) (by decide) (by decide) rfl mk_261
set_option maxRecDepth 100000 in
theorem mk_262 : mokB tFL tML tCF tKC tKL tCL tOI tAC tSL tMX 12 mm_262 = true := by decide +kernel
theorem mo_262 : mok lw_good gP mm_262 := mokB_ok tabs_ok (oc := 12) (by decide) (by decide) rfl mk_262
set_option maxRecDepth 100000 in
theorem mk_263 : mokB tFL tML tCF tKC tKL tCL tOI tAC tSL tMX 12 mm_263 = true := by decide +kernel
theorem mo_263 : mok lw_good gP mm_263 := mokB_ok tabs_ok (oc := 12) (by decide) (by decide) rfl mk_263
set_option maxRecDepth 100000 in
theorem mk_264_0 : cd_264_0.all (fun q => eokB tFL tML tCF tKC tKL tCL tOI tAC tSL tMX 12 (mm_264.1.name == "<init>") mm_264.2.1 q.1 q.2) = true := by decide +kernel
set_option maxRecDepth 100000 in
theorem mk_264_1 : cd_264_1.all (fun q => eokB tFL tML tCF tKC tKL tCL tOI tAC tSL tMX 12 (mm_264.1.name == "<init>") mm_264.2.1 q.1 q.2) = true := by decide +kernel
set_option maxRecDepth 100000 in
theorem mk_264_2 : cd_264_2.all (fun q => eokB tFL tML tCF tKC tKL tCL tOI tAC tSL tMX 12 (mm_264.1.name == "<init>") mm_264.2.1 q.1 q.2) = true := by decide +kernel
set_option maxRecDepth 100000 in
theorem mk_264_3 : cd_264_3.all (fun q => eokB tFL tML tCF tKC tKL tCL tOI tAC tSL tMX 12 (mm_264.1.name == "<init>") mm_264.2.1 q.1 q.2) = true := by decide +kernel
set_option maxRecDepth 100000 in
theorem mk_264_4 : cd_264_4.all (fun q => eokB tFL tML tCF tKC tKL tCL tOI tAC tSL tMX 12 (mm_264.1.name == "<init>") mm_264.2.1 q.1 q.2) = true := by decide +kernel
set_option maxRecDepth 100000 in
theorem mk_264_5 : cd_264_5.all (fun q => eokB tFL tML tCF tKC tKL tCL tOI tAC tSL tMX 12 (mm_264.1.name == "<init>") mm_264.2.1 q.1 q.2) = true := by decide +kernel
theorem mk_264 : mokB tFL tML tCF tKC tKL tCL tOI tAC tSL tMX 12 mm_264 = true := by
  show (cd_264_0 ++ (cd_264_1 ++ (cd_264_2 ++ (cd_264_3 ++ (cd_264_4 ++ (cd_264_5)))))).all (fun q => eokB tFL tML tCF tKC tKL tCL tOI tAC tSL tMX 12 (mm_264.1.name == "<init>") mm_264.2.1 q.1 q.2) = true
  simp only [List.all_append, mk_264_0, mk_264_1, mk_264_2, mk_264_3, mk_264_4, mk_264_5, Bool.and_self]
theorem mo_264 : mok lw_good gP mm_264 := mokB_ok tabs_ok (oc := 12) (by decide) (by decide) rfl mk_264
set_option maxRecDepth 100000 in
theorem mk_265 : mokB tFL tML tCF tKC tKL tCL tOI tAC tSL tMX 12 mm_265 = true := by decide +kernel
theorem mo_265 : mok lw_good gP mm_265 := mokB_ok tabs_ok (oc := 12) (by decide) (by decide) rfl mk_265
set_option maxRecDepth 100000 in
theorem mk_266 : mokB tFL tML tCF tKC tKL tCL tOI tAC tSL tMX 12 mm_266 = true := by decide +kernel
theorem mo_266 : mok lw_good gP mm_266 := mokB_ok tabs_ok (oc := 12) (by decide) (by decide) rfl mk_266
set_option maxRecDepth 100000 in
theorem mk_267 : mokB tFL tML tCF tKC tKL tCL tOI tAC tSL tMX 12 mm_267 = true := by decide +kernel
theorem mo_267 : mok lw_good gP mm_267 := mokB_ok tabs_ok (oc := 12) (by decide) (by decide) rfl mk_267
set_option maxRecDepth 100000 in
theorem mk_268 : mokB tFL tML tCF tKC tKL tCL tOI tAC tSL tMX 12 mm_268 = true := by decide +kernel
theorem mo_268 : mok lw_good gP mm_268 := mokB_ok tabs_ok (oc := 12) (by decide) (by decide) rfl mk_268
set_option maxRecDepth 100000 in
theorem mk_269 : mokB tFL tML tCF tKC tKL tCL tOI tAC tSL tMX 12 mm_269 = true := by decide +kernel
theorem mo_269 : mok lw_good gP mm_269 := mokB_ok tabs_ok (oc := 12) (by decide) (by decide) rfl mk_269
set_option maxRecDepth 100000 in
theorem mk_270 : mokB tFL tML tCF tKC tKL tCL tOI tAC tSL tMX 12 mm_270 = true := by decide +kernel
theorem mo_270 : mok lw_good gP mm_270 := mokB_ok tabs_ok (oc := 12) (by decide) (by decide) rfl mk_270
set_option maxRecDepth 100000 in
theorem mk_271 : mokB tFL tML tCF tKC tKL tCL tOI tAC tSL tMX 12 mm_271 = true := by decide +kernel
theorem mo_271 : mok lw_good gP mm_271 := mokB_ok tabs_ok (oc := 12) (by decide) (by decide) rfl mk_271
set_option maxRecDepth 100000 in
theorem mk_272 : mokB tFL tML tCF tKC tKL tCL tOI tAC tSL tMX 12 mm_272 = true := by decide +kernel
theorem mo_272 : mok lw_good gP mm_272 := mokB_ok tabs_ok (oc := 12) (by decide) (by decide) rfl mk_272
