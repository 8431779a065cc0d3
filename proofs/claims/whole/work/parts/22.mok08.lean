set_option maxRecDepth 100000 in
theorem mk_273 : mokB tFL tML tCF tKC tKL tCL tOI tAC tSL tMX 12 mm_273 = true := by decide +kernel
theorem mo_273 : mok lw_good gP mm_273 := mokB_ok tabs_ok (oc := 12) (by decide) (by decide) rfl mk_273
set_option maxRecDepth 100000 in
theorem mk_274 : mokB tFL tML tCF tKC tKL tCL tOI tAC tSL tMX 12 mm_274 = true := by decide +kernel
theorem mo_274 : mok lw_good gP mm_274 := mokB_ok tabs_ok (oc := 12) (by decide) (by decide) rfl mk_274
set_option maxRecDepth 100000 in
theorem mk_275 : mokB tFL tML tCF tKC tKL tCL tOI tAC tSL tMX 12 mm_275 = true := by decide +kernel
theorem mo_275 : mok lw_good gP mm_275 := mokB_ok tabs_ok (oc := 12) (by decide) (by decide) rfl mk_275
set_option maxRecDepth 100000 in
theorem mk_276 : mokB tFL tML tCF tKC tKL tCL tOI tAC tSL tMX 12 mm_276 = true := by decide +kernel
theorem mo_276 : mok lw_good gP mm_276 := mokB_ok tabs_ok (oc := 12) (by decide) (by decide) rfl mk_276
set_option maxRecDepth 100000 in
theorem mk_277 : mokB tFL tML tCF tKC tKL tCL tOI tAC tSL tMX 12 mm_277 = true := by decide +kernel
theorem mo_277 : mok lw_good gP mm_277 := mokB_ok tabs_ok (oc := 12) (by decide) (by decide) rfl mk_277
set_option maxRecDepth 100000 in
theorem mk_278 : mokB tFL tML tCF tKC tKL tCL tOI tAC tSL tMX 12 mm_278 = true := by decide +kernel
theorem mo_278 : mok lw_good gP mm_278 := mokB_ok tabs_ok (oc := 12) (by decide) (by decide) rfl mk_278
set_option maxRecDepth 100000 in
theorem mk_279 : mokB tFL tML tCF tKC tKL tCL tOI tAC tSL tMX 12 mm_279 = true := by decide +kernel
theorem mo_279 : mok lw_good gP mm_279 := mokB_ok tabs_ok (oc := 12) (by decide) (by decide) rfl mk_279
set_option maxRecDepth 100000 in
theorem mk_280 : mokB tFL tML tCF tKC tKL tCL tOI tAC tSL tMX 12 mm_280 = true := by decide +kernel
theorem mo_280 : mok lw_good gP mm_280 := mokB_ok tabs_ok (oc := 12) (by decide) (by decide) rfl mk_280
set_option maxRecDepth 100000 in
theorem mk_281 : mokB tFL tML tCF tKC tKL tCL tOI tAC tSL tMX 12 mm_281 = true := by decide +kernel
theorem mo_281 : mok lw_good gP mm_281 := mokB_ok tabs_ok (oc := 12) (by decide) (by decide) rfl mk_281
set_option maxRecDepth 100000 in
theorem mk_282 : mokB tFL tML tCF tKC tKL tCL tOI tAC tSL tMX 12 mm_282 = true := by decide +kernel
theorem mo_282 : mok lw_good gP mm_282 := mokB_ok tabs_ok (oc := 12) (by decide) (by decide) rfl mk_282
set_option maxRecDepth 100000 in
theorem mk_283 : mokB tFL tML tCF tKC tKL tCL tOI tAC tSL tMX 12 mm_283 = true := by decide +kernel
theorem mo_283 : mok lw_good gP mm_283 := mokB_ok tabs_ok (oc := 12) (by decide) (by decide) rfl mk_283
set_option maxRecDepth 100000 in
theorem mk_284 : mokB tFL tML tCF tKC tKL tCL tOI tAC tSL tMX 12 mm_284 = true := by decide +kernel
theorem mo_284 : mok lw_good gP mm_284 := mokB_ok tabs_ok (oc := 12) (by decide) (by decide) rfl mk_284
set_option maxRecDepth 100000 in
theorem mk_285 : mokB tFL tML tCF tKC tKL tCL tOI tAC tSL tMX 12 mm_285 = true := by decide +kernel
theorem mo_285 : mok lw_good gP mm_285 := mokB_ok tabs_ok (oc := 12) (by decide) (by decide) rfl mk_285
set_option maxRecDepth 100000 in
theorem mk_286 : mokB tFL tML tCF tKC tKL tCL tOI tAC tSL tMX 12 mm_286 = true := by decide +kernel
theorem mo_286 : mok lw_good gP mm_286 := mokB_ok tabs_ok (oc := 12) (by decide) (by decide) rfl mk_286
set_option maxRecDepth 100000 in
theorem mk_287 : mokB tFL tML tCF tKC tKL tCL tOI tAC tSL tMX 12 mm_287 = true := by decide +kernel
theorem mo_287 : mok lw_good gP mm_287 := mokB_ok tabs_ok (oc := 12) (by decide) (by decide) rfl mk_287
set_option maxRecDepth 100000 in
theorem mk_288 : mokB tFL tML tCF tKC tKL tCL tOI tAC tSL tMX 12 mm_288 = true := by decide +kernel
theorem mo_288 : mok lw_good gP mm_288 := mokB_ok tabs_ok (oc := 12) (by decide) (by decide) rfl mk_288
set_option maxRecDepth 100000 in
theorem mk_289 : mokB tFL tML tCF tKC tKL tCL tOI tAC tSL tMX 12 mm_289 = true := by decide +kernel
theorem mo_289 : mok lw_good gP mm_289 := mokB_ok tabs_ok (oc := 12) (by decide) (by decide) rfl mk_289
set_option maxRecDepth 100000 in
theorem mk_290 : mokB tFL tML tCF tKC tKL tCL tOI tAC tSL tMX 12 mm_290 = true := by decide +kernel
theorem mo_290 : mok lw_good gP mm_290 := mokB_ok tabs_ok (oc := 12) (by decide) (by decide) rfl mk_290
set_option maxRecDepth 100000 in
theorem mk_291 : mokB tFL tML tCF tKC tKL tCL tOI tAC tSL tMX 12 mm_291 = true := by decide +kernel
theorem mo_291 : mok lw_good gP mm_291 := mokB_ok tabs_ok (oc := 12) (by decide) (by decide) rfl mk_291
set_option maxRecDepth 100000 in
theorem mk_292 : mokB tFL tML tCF tKC tKL tCL tOI tAC tSL tMX 12 mm_292 = true := by decide +kernel
theorem mo_292 : mok lw_good gP mm_292 := mokB_ok tabs_ok (oc := 12) (by decide) (by decide) rfl mk_292
set_option maxRecDepth 100000 in
theorem mk_293 : mokB tFL tML tCF tKC tKL tCL tOI tAC tSL tMX 12 mm_293 = true := by decide +kernel
theorem mo_293 : mok lw_good gP mm_293 := mokB_ok tabs_ok (oc := 12) (by decide) (by decide) rfl mk_293
set_option maxRecDepth 100000 in
theorem mk_294 : mokB tFL tML tCF tKC tKL tCL tOI tAC tSL tMX 12 mm_294 = true := by decide +kernel
theorem mo_294 : mok lw_good gP mm_294 := mokB_ok tabs_ok (oc := 12) (by decide) (by decide) rfl mk_294
set_option maxRecDepth 100000 in
theorem mk_295 : mokB tFL tML tCF tKC tKL tCL tOI tAC tSL tMX 12 mm_295 = true := by decide +kernel
theorem mo_295 : mok lw_good gP mm_295 := mokB_ok tabs_ok (oc := 12) (by decide) (by decide) rfl mk_295
set_option maxRecDepth 100000 in
theorem mk_296 : mokB tFL tML tCF tKC tKL tCL tOI tAC tSL tMX 12 mm_296 = true := by decide +kernel
theorem mo_296 : mok lw_good gP mm_296 := mokB_ok tabs_ok (oc := 12) (by decide) (by decide) rfl mk_296
set_option maxRecDepth 100000 in
theorem mk_297 : mokB tFL tML tCF tKC tKL tCL tOI tAC tSL tMX 12 mm_297 = true := by decide +kernel
theorem mo_297 : mok lw_good gP mm_297 := mokB_ok tabs_ok (oc := 12) (by decide) (by decide) rfl mk_297
set_option maxRecDepth 100000 in
theorem mk_298 : mokB tFL tML tCF tKC tKL tCL tOI tAC tSL tMX 12 mm_298 = true := by decide +kernel
theorem mo_298 : mok lw_good gP mm_298 := mokB_ok tabs_ok (oc := 12) (by decide) (by decide) rfl mk_298
set_option maxRecDepth 100000 in
theorem mk_299_0 : cd_299_0.all (fun q => eokB tFL tML tCF tKC tKL tCL tOI tAC tSL tMX 12 (mm_299.1.name == "<init>") mm_299.2.1 q.1 q.2) = true := by decide +kernel
set_option maxRecDepth 100000 in
theorem mk_299_1 : cd_299_1.all (fun q => eokB tFL tML tCF tKC tKL tCL tOI tAC tSL tMX 12 (mm_299.1.name == "<init>") mm_299.2.1 q.1 q.2) = true := by decide +kernel
set_option maxRecDepth 100000 in
theorem mk_299_2 : cd_299_2.all (fun q => eokB tFL tML tCF tKC tKL tCL tOI tAC tSL tMX 12 (mm_299.1.name == "<init>") mm_299.2.1 q.1 q.2) = true := by decide +kernel
set_option maxRecDepth 100000 in
theorem mk_299_3 : cd_299_3.all (fun q => eokB tFL tML tCF tKC tKL tCL tOI tAC tSL tMX 12 (mm_299.1.name == "<init>") mm_299.2.1 q.1 q.2) = true := by decide +kernel
theorem mk_299 : mokB tFL tML tCF tKC tKL tCL tOI tAC tSL tMX 12 mm_299 = true := by
  show (cd_299_0 ++ (cd_299_1 ++ (cd_299_2 ++ (cd_299_3)))).all (fun q => eokB tFL tML tCF tKC tKL tCL tOI tAC tSL tMX 12 (mm_299.1.name == "<init>") mm_299.2.1 q.1 q.2) = true
  simp only [List.all_append, mk_299_0, mk_299_1, mk_299_2, mk_299_3, Bool.and_self]
theorem mo_299 : mok lw_good gP mm_299 := mokB_ok tabs_ok (oc := 12) (by decide) (by decide) rfl mk_299
set_option maxRecDepth 100000 in
theorem mk_300 : mokB tFL tML tCF tKC tKL tCL tOI tAC tSL tMX 12 mm_300 = true := by decide +kernel
theorem mo_300 : mok lw_good gP mm_300 := mokB_ok tabs_ok (oc := 12) (by decide) (by decide) rfl mk_300
set_option maxRecDepth 100000 in
theorem mk_301 : mokB tFL tML tCF tKC tKL tCL tOI tAC tSL tMX 12 mm_301 = true := by decide +kernel
theorem mo_301 : mok lw_good gP mm_301 := mokB_ok tabs_ok (oc := 12) (by decide) (by decide) rfl mk_301
set_option maxRecDepth 100000 in
theorem mk_302 : mokB tFL tML tCF tKC tKL tCL tOI tAC tSL tMX 12 mm_302 = true := by decide +kernel
theorem mo_302 : mok lw_good gP mm_302 := mokB_ok tabs_ok (oc := 12) (by decide) (by decide) rfl mk_302
set_option maxRecDepth 100000 in
theorem mk_303 : mokB tFL tML tCF tKC tKL tCL tOI tAC tSL tMX 12 mm_303 = true := by decide +kernel
theorem mo_303 : mok lw_good gP mm_303 := mokB_ok tabs_ok (oc := 12) (by decide) (by decide) rfl mk_303
