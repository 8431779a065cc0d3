set_option maxRecDepth 100000 in
theorem mk_304 : mokB tFL tML tCF tKC tKL tCL tOI tAC tSL tMX 12 mm_304 = true := by decide +kernel
theorem mo_304 : mok lw_good gP mm_304 := mokB_ok tabs_ok (oc := 12) (by decide) (by decide) rfl mk_304
set_option maxRecDepth 100000 in
theorem mk_305 : mokB tFL tML tCF tKC tKL tCL tOI tAC tSL tMX 12 mm_305 = true := by decide +kernel
theorem mo_305 : mok lw_good gP mm_305 := mokB_ok tabs_ok (oc := 12) (by decide) (by decide) rfl mk_305
set_option maxRecDepth 100000 in
theorem mk_306 : mokB tFL tML tCF tKC tKL tCL tOI tAC tSL tMX 12 mm_306 = true := by decide +kernel
theorem mo_306 : mok lw_good gP mm_306 := mokB_ok tabs_ok (oc := 12) (by decide) (by decide) rfl mk_306
set_option maxRecDepth 100000 in
theorem mk_307 : mokB tFL tML tCF tKC tKL tCL tOI tAC tSL tMX 12 mm_307 = true := by decide +kernel
theorem mo_307 : mok lw_good gP mm_307 := mokB_ok tabs_ok (oc := 12) (by decide) (by decide) rfl mk_307
set_option maxRecDepth 100000 in
theorem mk_308 : mokB tFL tML tCF tKC tKL tCL tOI tAC tSL tMX 12 mm_308 = true := by decide +kernel
theorem mo_308 : mok lw_good gP mm_308 := mokB_ok tabs_ok (oc := 12) (by decide) (by decide) rfl mk_308
set_option maxRecDepth 100000 in
theorem mk_309 : mokB tFL tML tCF tKC tKL tCL tOI tAC tSL tMX 12 mm_309 = true := by decide +kernel
theorem mo_309 : mok lw_good gP mm_309 := mokB_ok tabs_ok (oc := 12) (by decide) (by decide) rfl mk_309
set_option maxRecDepth 100000 in
theorem mk_310 : mokB tFL tML tCF tKC tKL tCL tOI tAC tSL tMX 12 mm_310 = true := by decide +kernel
theorem mo_310 : mok lw_good gP mm_310 := mokB_ok tabs_ok (oc := 12) (by decide) (by decide) rfl mk_310
set_option maxRecDepth 100000 in
theorem mk_311 : mokB tFL tML tCF tKC tKL tCL tOI tAC tSL tMX 12 mm_311 = true := by decide +kernel
theorem mo_311 : mok lw_good gP mm_311 := mokB_ok tabs_ok (oc := 12) (by decide) (by decide) rfl mk_311
set_option maxRecDepth 100000 in
theorem mk_312 : mokB tFL tML tCF tKC tKL tCL tOI tAC tSL tMX 12 mm_312 = true := by decide +kernel
theorem mo_312 : mok lw_good gP mm_312 := mokB_ok tabs_ok (oc := 12) (by decide) (by decide) rfl mk_312
set_option maxRecDepth 100000 in
theorem mk_313 : mokB tFL tML tCF tKC tKL tCL tOI tAC tSL tMX 12 mm_313 = true := by decide +kernel
theorem mo_313 : mok lw_good gP mm_313 := mokB_ok tabs_ok (oc := 12) (by decide) (by decide) rfl mk_313
set_option maxRecDepth 100000 in
theorem mk_314 : mokB tFL tML tCF tKC tKL tCL tOI tAC tSL tMX 12 mm_314 = true := by decide +kernel
theorem mo_314 : mok lw_good gP mm_314 := mokB_ok tabs_ok (oc := 12) (by decide) (by decide) rfl mk_314
set_option maxRecDepth 100000 in
theorem mk_315_0 : cd_315_0.all (fun q => eokB tFL tML tCF tKC tKL tCL tOI tAC tSL tMX 12 (mm_315.1.name == "<init>") mm_315.2.1 q.1 q.2) = true := by decide +kernel
set_option maxRecDepth 100000 in
theorem mk_315_1 : cd_315_1.all (fun q => eokB tFL tML tCF tKC tKL tCL tOI tAC tSL tMX 12 (mm_315.1.name == "<init>") mm_315.2.1 q.1 q.2) = true := by decide +kernel
set_option maxRecDepth 100000 in
theorem mk_315_2 : cd_315_2.all (fun q => eokB tFL tML tCF tKC tKL tCL tOI tAC tSL tMX 12 (mm_315.1.name == "<init>") mm_315.2.1 q.1 q.2) = true := by decide +kernel
set_option maxRecDepth 100000 in
theorem mk_315_3 : cd_315_3.all (fun q => eokB tFL tML tCF tKC tKL tCL tOI tAC tSL tMX 12 (mm_315.1.name == "<init>") mm_315.2.1 q.1 q.2) = true := by decide +kernel
theorem mk_315 : mokB tFL tML tCF tKC tKL tCL tOI tAC tSL tMX 12 mm_315 = true := by
  show (cd_315_0 ++ (cd_315_1 ++ (cd_315_2 ++ (cd_315_3)))).all (fun q => eokB tFL tML tCF tKC tKL tCL tOI tAC tSL tMX 12 (mm_315.1.name == "<init>") mm_315.2.1 q.1 q.2) = true
  simp only [List.all_append, mk_315_0, mk_315_1, mk_315_2, mk_315_3, Bool.and_self]
theorem mo_315 : mok lw_good gP mm_315 := mokB_ok tabs_ok (oc := 12) (by decide) (by decide) rfl mk_315
set_option maxRecDepth 100000 in
theorem mk_316 : mokB tFL tML tCF tKC tKL tCL tOI tAC tSL tMX 14 mm_316 = true := by decide +kernel
theorem mo_316 : mok lw_good gP mm_316 := mokB_ok tabs_ok (oc := 14) (by decide) (by decide) rfl mk_316
set_option maxRecDepth 100000 in
theorem mk_317 : mokB tFL tML tCF tKC tKL tCL tOI tAC tSL tMX 16 mm_317 = true := by decide +kernel
theorem mo_317 : mok lw_good gP mm_317 := mokB_ok tabs_ok (oc := 16) (by decide) (by decide) rfl mk_317
set_option maxRecDepth 100000 in
theorem mk_318 : mokB tFL tML tCF tKC tKL tCL tOI tAC tSL tMX 16 mm_318 = true := by decide +kernel
theorem mo_318 : mok lw_good gP mm_318 := mokB_ok tabs_ok (oc := 16) (by decide) (by decide) rfl mk_318
set_option maxRecDepth 100000 in
theorem mk_319 : mokB tFL tML tCF tKC tKL tCL tOI tAC tSL tMX 16 mm_319 = true := by decide +kernel
theorem mo_319 : mok lw_good gP mm_319 := mokB_ok tabs_ok (oc := 16) (by decide) (by decide) rfl mk_319
set_option maxRecDepth 100000 in
theorem mk_320 : mokB tFL tML tCF tKC tKL tCL tOI tAC tSL tMX 16 mm_320 = true := by decide +kernel
theorem mo_320 : mok lw_good gP mm_320 := mokB_ok tabs_ok (oc := 16) (by decide) (by decide) rfl mk_320
set_option maxRecDepth 100000 in
theorem mk_321_0 : cd_321_0.all (fun q => eokB tFL tML tCF tKC tKL tCL tOI tAC tSL tMX 13 (mm_321.1.name == "<init>") mm_321.2.1 q.1 q.2) = true := by decide +kernel
set_option maxRecDepth 100000 in
theorem mk_321_1 : cd_321_1.all (fun q => eokB tFL tML tCF tKC tKL tCL tOI tAC tSL tMX 13 (mm_321.1.name == "<init>") mm_321.2.1 q.1 q.2) = true := by decide +kernel
set_option maxRecDepth 100000 in
theorem mk_321_2 : cd_321_2.all (fun q => eokB tFL tML tCF tKC tKL tCL tOI tAC tSL tMX 13 (mm_321.1.name == "<init>") mm_321.2.1 q.1 q.2) = true := by decide +kernel
set_option maxRecDepth 100000 in
theorem mk_321_3 : cd_321_3.all (fun q => eokB tFL tML tCF tKC tKL tCL tOI tAC tSL tMX 13 (mm_321.1.name == "<init>") mm_321.2.1 q.1 q.2) = true := by decide +kernel
set_option maxRecDepth 100000 in
theorem mk_321_4 : cd_321_4.all (fun q => eokB tFL tML tCF tKC tKL tCL tOI tAC tSL tMX 13 (mm_321.1.name == "<init>") mm_321.2.1 q.1 q.2) = true := by decide +kernel
set_option maxRecDepth 100000 in
theorem mk_321_5 : cd_321_5.all (fun q => eokB tFL tML tCF tKC tKL tCL tOI tAC tSL tMX 13 (mm_321.1.name == "<init>") mm_321.2.1 q.1 q.2) = true := by decide +kernel
set_option maxRecDepth 100000 in
theorem mk_321_6 : cd_321_6.all (fun q => eokB tFL tML tCF tKC tKL tCL tOI tAC tSL tMX 13 (mm_321.1.name == "<init>") mm_321.2.1 q.1 q.2) = true := by decide +kernel
set_option maxRecDepth 100000 in
theorem mk_321_7 : cd_321_7.all (fun q => eokB tFL tML tCF tKC tKL tCL tOI tAC tSL tMX 13 (mm_321.1.name == "<init>") mm_321.2.1 q.1 q.2) = true := by decide +kernel
set_option maxRecDepth 100000 in
theorem mk_321_8 : cd_321_8.all (fun q => eokB tFL tML tCF tKC tKL tCL tOI tAC tSL tMX 13 (mm_321.1.name == "<init>") mm_321.2.1 q.1 q.2) = true := by decide +kernel
set_option maxRecDepth 100000 in
theorem mk_321_9 : cd_321_9.all (fun q => eokB tFL tML tCF tKC tKL tCL tOI tAC tSL tMX 13 (mm_321.1.name == "<init>") mm_321.2.1 q.1 q.2) = true := by decide +kernel
set_option maxRecDepth 100000 in
theorem mk_321_10 : cd_321_10.all (fun q => eokB tFL tML tCF tKC tKL tCL tOI tAC tSL tMX 13 (mm_321.1.name == "<init>") mm_321.2.1 q.1 q.2) = true := by decide +kernel
set_option maxRecDepth 100000 in
theorem mk_321_11 : cd_321_11.all (fun q => eokB tFL tML tCF tKC tKL tCL tOI tAC tSL tMX 13 (mm_321.1.name == "<init>") mm_321.2.1 q.1 q.2) = true := by decide +kernel
set_option maxRecDepth 100000 in
theorem mk_321_12 : cd_321_12.all (fun q => eokB tFL tML tCF tKC tKL tCL tOI tAC tSL tMX 13 (mm_321.1.name == "<init>") mm_321.2.1 q.1 q.2) = true := by decide +kernel
set_option maxRecDepth 100000 in
theorem mk_321_13 : cd_321_13.all (fun q => eokB tFL tML tCF tKC tKL tCL tOI tAC tSL tMX 13 (mm_321.1.name == "<init>") mm_321.2.1 q.1 q.2) = true := by decide +kernel
set_option maxRecDepth 100000 in
theorem mk_321_14 : cd_321_14.all (fun q => eokB tFL tML tCF tKC tKL tCL tOI tAC tSL tMX 13 (mm_321.1.name == "<init>") mm_321.2.1 q.1 q.2) = true := by decide +kernel
set_option maxRecDepth 100000 in
theorem mk_321_15 : cd_321_15.all (fun q => eokB tFL tML tCF tKC tKL tCL tOI tAC tSL tMX 13 (mm_321.1.name == "<init>") mm_321.2.1 q.1 q.2) = true := by decide +kernel
set_option maxRecDepth 100000 in
theorem mk_321_16 : cd_321_16.all (fun q => eokB tFL tML tCF tKC tKL tCL tOI tAC tSL tMX 13 (mm_321.1.name == "<init>") mm_321.2.1 q.1 q.2) = true := by decide +kernel
set_option maxRecDepth 100000 in
theorem mk_321_17 : cd_321_17.all (fun q => eokB tFL tML tCF tKC tKL tCL tOI tAC tSL tMX 13 (mm_321.1.name == "<init>") mm_321.2.1 q.1 q.2) = true := by decide +kernel
set_option maxRecDepth 100000 in
theorem mk_321_18 : cd_321_18.all (fun q => eokB tFL tML tCF tKC tKL tCL tOI tAC tSL tMX 13 (mm_321.1.name == "<init>") mm_321.2.1 q.1 q.2) = true := by decide +kernel
set_option maxRecDepth 100000 in
theorem mk_321_19 : cd_321_19.all (fun q => eokB tFL tML tCF tKC tKL tCL tOI tAC tSL tMX 13 (mm_321.1.name == "<init>") mm_321.2.1 q.1 q.2) = true := by decide +kernel
set_option maxRecDepth 100000 in
theorem mk_321_20 : cd_321_20.all (fun q => eokB tFL tML tCF tKC tKL tCL tOI tAC tSL tMX 13 (mm_321.1.name == "<init>") mm_321.2.1 q.1 q.2) = true := by decide +kernel
set_option maxRecDepth 100000 in
theorem mk_321_21 : cd_321_21.all (fun q => eokB tFL tML tCF tKC tKL tCL tOI tAC tSL tMX 13 (mm_321.1.name == "<init>") mm_321.2.1 q.1 q.2) = true := by decide +kernel
set_option maxRecDepth 100000 in
theorem mk_321_22 : cd_321_22.all (fun q => eokB tFL tML tCF tKC tKL tCL tOI tAC tSL tMX 13 (mm_321.1.name == "<init>") mm_321.2.1 q.1 q.2) = true := by decide +kernel
set_option maxRecDepth 100000 in
theorem mk_321_23 : cd_321_23.all (fun q => eokB tFL tML tCF tKC tKL tCL tOI tAC tSL tMX 13 (mm_321.1.name == "<init>") mm_321.2.1 q.1 q.2) = true := by decide +kernel
theorem mk_321 : mokB tFL tML tCF tKC tKL tCL tOI tAC tSL tMX 13 mm_321 = true := by
  show (cd_321_0 ++ (cd_321_1 ++ (cd_321_2 ++ (cd_321_3 ++ (cd_321_4 ++ (cd_321_5 ++ (cd_321_6 ++ (cd_321_7 ++ (cd_321_8 ++ (cd_321_9 ++ (cd_321_10 ++ (cd_321_11 ++ (cd_321_12 ++ (cd_321_13 ++ (cd_321_14 ++ (cd_321_15 ++ (cd_321_16 ++ (cd_321_17 ++ (cd_321_18 ++ (cd_321_19 ++ (cd_321_20 ++ (cd_321_21 ++ (cd_321_22 ++ (cd_321_23)))))))))))))))))))))))).all (fun q => eokB tFL tML tCF tKC tKL tCL tOI tAC tSL tMX 13 (mm_321.1.name == "<init>") mm_321.2.1 q.1 q.2) = true
  simp only [List.all_append, mk_321_0, mk_321_1, mk_321_2, mk_321_3, mk_321_4, mk_321_5, mk_321_6, mk_321_7, mk_321_8, mk_321_9, mk_321_10, mk_321_11, mk_321_12, mk_321_13, mk_321_14, mk_321_15, mk_321_16, mk_321_17, mk_321_18, mk_321_19, mk_321_20, mk_321_21, mk_321_22, mk_321_23, Bool.and_self]
theorem mo_321 : mok lw_good gP mm_321 := mokB_ok tabs_ok (oc := 13) (by decide) (by decide) rfl mk_321
