set_option maxRecDepth 100000 in
theorem mk_0 : mokB tFL tML tCF tKC tKL tCL tOI tAC tSL tMX 0 mm_0 = true := by decide +kernel
theorem mo_0 : mok lw_good gP mm_0 := mokB_ok tabs_ok (oc := 0) (by decide) (by decide) rfl mk_0
set_option maxRecDepth 100000 in
theorem mk_1 : mokB tFL tML tCF tKC tKL tCL tOI tAC tSL tMX 0 mm_1 = true := by decide +kernel
theorem mo_1 : mok lw_good gP mm_1 := mokB_ok tabs_ok (oc := 0) (by decide) (by decide) rfl mk_1
set_option maxRecDepth 100000 in
theorem mk_2 : mokB tFL tML tCF tKC tKL tCL tOI tAC tSL tMX 0 mm_2 = true := by decide +kernel
theorem mo_2 : mok lw_good gP mm_2 := mokB_ok tabs_ok (oc := 0) (by decide) (by decide) rfl mk_2
set_option maxRecDepth 100000 in
theorem mk_3 : mokB tFL tML tCF tKC tKL tCL tOI tAC tSL tMX 0 mm_3 = true := by decide +kernel
theorem mo_3 : mok lw_good gP mm_3 := mokB_ok tabs_ok (oc := 0) (by decide) (by decide) rfl mk_3
set_option maxRecDepth 100000 in
theorem mk_4 : mokB tFL tML tCF tKC tKL tCL tOI tAC tSL tMX 0 mm_4 = true := by decide +kernel
theorem mo_4 : mok lw_good gP mm_4 := mokB_ok tabs_ok (oc := 0) (by decide) (by decide) rfl mk_4
set_option maxRecDepth 100000 in
theorem mk_5 : mokB tFL tML tCF tKC tKL tCL tOI tAC tSL tMX 0 mm_5 = true := by decide +kernel
theorem mo_5 : mok lw_good gP mm_5 := mokB_ok tabs_ok (oc := 0) (by decide) (by decide) rfl mk_5
set_option maxRecDepth 100000 in
theorem mk_6 : mokB tFL tML tCF tKC tKL tCL tOI tAC tSL tMX 0 mm_6 = true := by decide +kernel
theorem mo_6 : mok lw_good gP mm_6 := mokB_ok tabs_ok (oc := 0) (by decide) (by decide) rfl mk_6
set_option maxRecDepth 100000 in
theorem mk_7 : mokB tFL tML tCF tKC tKL tCL tOI tAC tSL tMX 0 mm_7 = true := by decide +kernel
theorem mo_7 : mok lw_good gP mm_7 := mokB_ok tabs_ok (oc := 0) (by decide) (by decide) rfl mk_7
set_option maxRecDepth 100000 in
theorem mk_8 : mokB tFL tML tCF tKC tKL tCL tOI tAC tSL tMX 0 mm_8 = true := by decide +kernel
theorem mo_8 : mok lw_good gP mm_8 := mokB_ok tabs_ok (oc := 0) (by decide) (by decide) rfl mk_8
set_option maxRecDepth 100000 in
theorem mk_9 : mokB tFL tML tCF tKC tKL tCL tOI tAC tSL tMX 0 mm_9 = true := by decide +kernel
theorem mo_9 : mok lw_good gP mm_9 := mokB_ok tabs_ok (oc := 0) (by decide) (by decide) rfl mk_9
set_option maxRecDepth 100000 in
theorem mk_10 : mokB tFL tML tCF tKC tKL tCL tOI tAC tSL tMX 0 mm_10 = true := by decide +kernel
theorem mo_10 : mok lw_good gP mm_10 := mokB_ok tabs_ok (oc := 0) (by decide) (by decide) rfl mk_10
set_option maxRecDepth 100000 in
theorem mk_11 : mokB tFL tML tCF tKC tKL tCL tOI tAC tSL tMX 1 mm_11 = true := by decide +kernel
theorem mo_11 : mok lw_good gP mm_11 := mokB_ok tabs_ok (oc := 1) (by decide) (by decide) rfl mk_11
set_option maxRecDepth 100000 in
theorem mk_12 : mokB tFL tML tCF tKC tKL tCL tOI tAC tSL tMX 1 mm_12 = true := by decide +kernel
theorem mo_12 : mok lw_good gP mm_12 := mokB_ok tabs_ok (oc := 1) (by decide) (by decide) rfl mk_12
set_option maxRecDepth 100000 in
theorem mk_13 : mokB tFL tML tCF tKC tKL tCL tOI tAC tSL tMX 1 mm_13 = true := by decide +kernel
theorem mo_13 : mok lw_good gP mm_13 := mokB_ok tabs_ok (oc := 1) (by decide) (by decide) rfl mk_13
set_option maxRecDepth 100000 in
theorem mk_14 : mokB tFL tML tCF tKC tKL tCL tOI tAC tSL tMX 1 mm_14 = true := by decide +kernel
theorem mo_14 : mok lw_good gP mm_14 := mokB_ok tabs_ok (oc := 1) (by decide) (by decide) rfl mk_14
set_option maxRecDepth 100000 in
theorem mk_15 : mokB tFL tML tCF tKC tKL tCL tOI tAC tSL tMX 1 mm_15 = true := by decide +kernel
theorem mo_15 : mok lw_good gP mm_15 := mokB_ok tabs_ok (oc := 1) (by decide) (by decide) rfl mk_15
set_option maxRecDepth 100000 in
theorem mk_16 : mokB tFL tML tCF tKC tKL tCL tOI tAC tSL tMX 1 mm_16 = true := by decide +kernel
theorem mo_16 : mok lw_good gP mm_16 := mokB_ok tabs_ok (oc := 1) (by decide) (by decide) rfl mk_16
set_option maxRecDepth 100000 in
theorem mk_17 : mokB tFL tML tCF tKC tKL tCL tOI tAC tSL tMX 1 mm_17 = true := by decide +kernel
theorem mo_17 : mok lw_good gP mm_17 := mokB_ok tabs_ok (oc := 1) (by decide) (by decide) rfl mk_17
set_option maxRecDepth 100000 in
theorem mk_18 : mokB tFL tML tCF tKC tKL tCL tOI tAC tSL tMX 1 mm_18 = true := by decide +kernel
theorem mo_18 : mok lw_good gP mm_18 := mokB_ok tabs_ok (oc := 1) (by decide) (by decide) rfl mk_18
set_option maxRecDepth 100000 in
theorem mk_19 : mokB tFL tML tCF tKC tKL tCL tOI tAC tSL tMX 2 mm_19 = true := by decide +kernel
theorem mo_19 : mok lw_good gP mm_19 := mokB_ok tabs_ok (oc := 2) (by decide) (by decide) rfl mk_19
set_option maxRecDepth 100000 in
theorem mk_20 : mokB tFL tML tCF tKC tKL tCL tOI tAC tSL tMX 2 mm_20 = true := by decide +kernel
theorem mo_20 : mok lw_good gP mm_20 := mokB_ok tabs_ok (oc := 2) (by decide) (by decide) rfl mk_20
set_option maxRecDepth 100000 in
theorem mk_21 : mokB tFL tML tCF tKC tKL tCL tOI tAC tSL tMX 2 mm_21 = true := by decide +kernel
theorem mo_21 : mok lw_good gP mm_21 := mokB_ok tabs_ok (oc := 2) (by decide) (by decide) rfl mk_21
set_option maxRecDepth 100000 in
theorem mk_22 : mokB tFL tML tCF tKC tKL tCL tOI tAC tSL tMX 2 mm_22 = true := by decide +kernel
theorem mo_22 : mok lw_good gP mm_22 := mokB_ok tabs_ok (oc := 2) (by decide) (by decide) rfl mk_22
set_option maxRecDepth 100000 in
theorem mk_23 : mokB tFL tML tCF tKC tKL tCL tOI tAC tSL tMX 2 mm_23 = true := by decide +kernel
theorem mo_23 : mok lw_good gP mm_23 := mokB_ok tabs_ok (oc := 2) (by decide) (by decide) rfl mk_23
set_option maxRecDepth 100000 in
theorem mk_24 : mokB tFL tML tCF tKC tKL tCL tOI tAC tSL tMX 2 mm_24 = true := by decide +kernel
theorem mo_24 : mok lw_good gP mm_24 := mokB_ok tabs_ok (oc := 2) (by decide) (by decide) rfl mk_24
set_option maxRecDepth 100000 in
theorem mk_25 : mokB tFL tML tCF tKC tKL tCL tOI tAC tSL tMX 2 mm_25 = true := by decide +kernel
theorem mo_25 : mok lw_good gP mm_25 := mokB_ok tabs_ok (oc := 2) (by decide) (by decide) rfl mk_25
set_option maxRecDepth 100000 in
theorem mk_26 : mokB tFL tML tCF tKC tKL tCL tOI tAC tSL tMX 2 mm_26 = true := by decide +kernel
theorem mo_26 : mok lw_good gP mm_26 := mokB_ok tabs_ok (oc := 2) (by decide) (by decide) rfl mk_26
set_option maxRecDepth 100000 in
theorem mk_27 : mokB tFL tML tCF tKC tKL tCL tOI tAC tSL tMX 2 mm_27 = true := by decide +kernel
theorem mo_27 : mok lw_good gP mm_27 := mokB_ok tabs_ok (oc := 2) (by decide) (by decide) rfl mk_27
set_option maxRecDepth 100000 in
theorem mk_28 : mokB tFL tML tCF tKC tKL tCL tOI tAC tSL tMX 2 mm_28 = true := by decide +kernel
theorem mo_28 : mok lw_good gP mm_28 := mokB_ok tabs_ok (oc := 2) (by decide) (by decide) rfl mk_28
set_option maxRecDepth 100000 in
theorem mk_29 : mokB tFL tML tCF tKC tKL tCL tOI tAC tSL tMX 3 mm_29 = true := by decide +kernel
theorem mo_29 : mok lw_good gP mm_29 := mokB_ok tabs_ok (oc := 3) (by decide) (by decide) rfl mk_29
set_option maxRecDepth 100000 in
theorem mk_30 : mokB tFL tML tCF tKC tKL tCL tOI tAC tSL tMX 3 mm_30 = true := by decide +kernel
theorem mo_30 : mok lw_good gP mm_30 := mokB_ok tabs_ok (oc := 3) (by decide) (by decide) rfl mk_30
set_option maxRecDepth 100000 in
theorem mk_31 : mokB tFL tML tCF tKC tKL tCL tOI tAC tSL tMX 3 mm_31 = true := by decide +kernel
theorem mo_31 : mok lw_good gP mm_31 := mokB_ok tabs_ok (oc := 3) (by decide) (by decide) rfl mk_31
set_option maxRecDepth 100000 in
theorem mk_32 : mokB tFL tML tCF tKC tKL tCL tOI tAC tSL tMX 3 mm_32 = true := by decide +kernel
theorem mo_32 : mok lw_good gP mm_32 := mokB_ok tabs_ok (oc := 3) (by decide) (by decide) rfl mk_32
set_option maxRecDepth 100000 in
theorem mk_33 : mokB tFL tML tCF tKC tKL tCL tOI tAC tSL tMX 3 mm_33 = true := by decide +kernel
theorem mo_33 : mok lw_good gP mm_33 := mokB_ok tabs_ok (oc := 3) (by decide) (by decide) rfl mk_33
set_option maxRecDepth 100000 in
theorem mk_34 : mokB tFL tML tCF tKC tKL tCL tOI tAC tSL tMX 3 mm_34 = true := by decide +kernel
theorem mo_34 : mok lw_good gP mm_34 := mokB_ok tabs_ok (oc := 3) (by decide) (by decide) rfl mk_34
set_option maxRecDepth 100000 in
theorem mk_35 : mokB tFL tML tCF tKC tKL tCL tOI tAC tSL tMX 3 mm_35 = true := by decide +kernel
theorem mo_35 : mok lw_good gP mm_35 := mokB_ok tabs_ok (oc := 3) (by decide) (by decide) rfl mk_35
set_option maxRecDepth 100000 in
theorem mk_36 : mokB tFL tML tCF tKC tKL tCL tOI tAC tSL tMX 4 mm_36 = true := by decide +kernel
theorem mo_36 : mok lw_good gP mm_36 := mokB_ok tabs_ok (oc := 4) (by decide) (by decide) rfl mk_36
set_option maxRecDepth 100000 in
theorem mk_37 : mokB tFL tML tCF tKC tKL tCL tOI tAC tSL tMX 4 mm_37 = true := by decide +kernel
theorem mo_37 : mok lw_good gP mm_37 := mokB_ok tabs_ok (oc := 4) (by decide) (by decide) rfl mk_37
set_option maxRecDepth 100000 in
theorem mk_38 : mokB tFL tML tCF tKC tKL tCL tOI tAC tSL tMX 4 mm_38 = true := by decide +kernel
theorem mo_38 : mok lw_good gP mm_38 := mokB_ok tabs_ok (oc := 4) (by decide) (by decide) rfl mk_38
set_option maxRecDepth 100000 in
theorem mk_39 : mokB tFL tML tCF tKC tKL tCL tOI tAC tSL tMX 4 mm_39 = true := by decide +kernel
theorem mo_39 : mok lw_good gP mm_39 := mokB_ok tabs_ok (oc := 4) (by decide) (by decide) rfl mk_39
set_option maxRecDepth 100000 in
theorem mk_40 : mokB tFL tML tCF tKC tKL tCL tOI tAC tSL tMX 4 mm_40 = true := by decide +kernel
theorem mo_40 : mok lw_good gP mm_40 := mokB_ok tabs_ok (oc := 4) (by decide) (by decide) rfl mk_40
