set_option maxRecDepth 100000 in
theorem mk_304 : mokB tFL tML tCF tKC tKL tCL tOI tAC tSL 12 mm_304 = true := by decide +kernel
theorem mo_304 : mok lw_good gP mm_304 := mokB_ok tabs_ok (oc := 12) (by decide) (by decide) rfl mk_304
set_option maxRecDepth 100000 in
theorem mk_305 : mokB tFL tML tCF tKC tKL tCL tOI tAC tSL 12 mm_305 = true := by decide +kernel
theorem mo_305 : mok lw_good gP mm_305 := mokB_ok tabs_ok (oc := 12) (by decide) (by decide) rfl mk_305
set_option maxRecDepth 100000 in
theorem mk_306 : mokB tFL tML tCF tKC tKL tCL tOI tAC tSL 12 mm_306 = true := by decide +kernel
theorem mo_306 : mok lw_good gP mm_306 := mokB_ok tabs_ok (oc := 12) (by decide) (by decide) rfl mk_306
set_option maxRecDepth 100000 in
theorem mk_307 : mokB tFL tML tCF tKC tKL tCL tOI tAC tSL 12 mm_307 = true := by decide +kernel
theorem mo_307 : mok lw_good gP mm_307 := mokB_ok tabs_ok (oc := 12) (by decide) (by decide) rfl mk_307
set_option maxRecDepth 100000 in
theorem mk_308 : mokB tFL tML tCF tKC tKL tCL tOI tAC tSL 12 mm_308 = true := by decide +kernel
theorem mo_308 : mok lw_good gP mm_308 := mokB_ok tabs_ok (oc := 12) (by decide) (by decide) rfl mk_308
set_option maxRecDepth 100000 in
theorem mk_309 : mokB tFL tML tCF tKC tKL tCL tOI tAC tSL 12 mm_309 = true := by decide +kernel
theorem mo_309 : mok lw_good gP mm_309 := mokB_ok tabs_ok (oc := 12) (by decide) (by decide) rfl mk_309
set_option maxRecDepth 100000 in
theorem mk_310 : mokB tFL tML tCF tKC tKL tCL tOI tAC tSL 12 mm_310 = true := by decide +kernel
theorem mo_310 : mok lw_good gP mm_310 := mokB_ok tabs_ok (oc := 12) (by decide) (by decide) rfl mk_310
set_option maxRecDepth 100000 in
theorem mk_311 : mokB tFL tML tCF tKC tKL tCL tOI tAC tSL 12 mm_311 = true := by decide +kernel
theorem mo_311 : mok lw_good gP mm_311 := mokB_ok tabs_ok (oc := 12) (by decide) (by decide) rfl mk_311
set_option maxRecDepth 100000 in
theorem mk_312 : mokB tFL tML tCF tKC tKL tCL tOI tAC tSL 12 mm_312 = true := by decide +kernel
theorem mo_312 : mok lw_good gP mm_312 := mokB_ok tabs_ok (oc := 12) (by decide) (by decide) rfl mk_312
set_option maxRecDepth 100000 in
theorem mk_313 : mokB tFL tML tCF tKC tKL tCL tOI tAC tSL 12 mm_313 = true := by decide +kernel
theorem mo_313 : mok lw_good gP mm_313 := mokB_ok tabs_ok (oc := 12) (by decide) (by decide) rfl mk_313
set_option maxRecDepth 100000 in
theorem mk_314 : mokB tFL tML tCF tKC tKL tCL tOI tAC tSL 12 mm_314 = true := by decide +kernel
theorem mo_314 : mok lw_good gP mm_314 := mokB_ok tabs_ok (oc := 12) (by decide) (by decide) rfl mk_314
set_option maxRecDepth 100000 in
theorem mk_315 : mokB tFL tML tCF tKC tKL tCL tOI tAC tSL 12 mm_315 = true := by decide +kernel
theorem mo_315 : mok lw_good gP mm_315 := mokB_ok tabs_ok (oc := 12) (by decide) (by decide) rfl mk_315
set_option maxRecDepth 100000 in
theorem mk_316 : mokB tFL tML tCF tKC tKL tCL tOI tAC tSL 14 mm_316 = true := by decide +kernel
theorem mo_316 : mok lw_good gP mm_316 := mokB_ok tabs_ok (oc := 14) (by decide) (by decide) rfl mk_316
set_option maxRecDepth 100000 in
theorem mk_317 : mokB tFL tML tCF tKC tKL tCL tOI tAC tSL 15 mm_317 = true := by decide +kernel
theorem mo_317 : mok lw_good gP mm_317 := mokB_ok tabs_ok (oc := 15) (by decide) (by decide) rfl mk_317
set_option maxRecDepth 100000 in
theorem mk_318 : mokB tFL tML tCF tKC tKL tCL tOI tAC tSL 15 mm_318 = true := by decide +kernel
theorem mo_318 : mok lw_good gP mm_318 := mokB_ok tabs_ok (oc := 15) (by decide) (by decide) rfl mk_318
set_option maxRecDepth 100000 in
theorem mk_319 : mokB tFL tML tCF tKC tKL tCL tOI tAC tSL 16 mm_319 = true := by decide +kernel
theorem mo_319 : mok lw_good gP mm_319 := mokB_ok tabs_ok (oc := 16) (by decide) (by decide) rfl mk_319
set_option maxRecDepth 100000 in
theorem mk_320 : mokB tFL tML tCF tKC tKL tCL tOI tAC tSL 16 mm_320 = true := by decide +kernel
theorem mo_320 : mok lw_good gP mm_320 := mokB_ok tabs_ok (oc := 16) (by decide) (by decide) rfl mk_320
set_option maxRecDepth 100000 in
theorem mk_321 : mokB tFL tML tCF tKC tKL tCL tOI tAC tSL 16 mm_321 = true := by decide +kernel
theorem mo_321 : mok lw_good gP mm_321 := mokB_ok tabs_ok (oc := 16) (by decide) (by decide) rfl mk_321
set_option maxRecDepth 100000 in
theorem mk_322 : mokB tFL tML tCF tKC tKL tCL tOI tAC tSL 16 mm_322 = true := by decide +kernel
theorem mo_322 : mok lw_good gP mm_322 := mokB_ok tabs_ok (oc := 16) (by decide) (by decide) rfl mk_322
set_option maxRecDepth 100000 in
theorem mk_323 : mokB tFL tML tCF tKC tKL tCL tOI tAC tSL 13 mm_323 = true := by decide +kernel
theorem mo_323 : mok lw_good gP mm_323 := mokB_ok tabs_ok (oc := 13) (by decide) (by decide) rfl mk_323
