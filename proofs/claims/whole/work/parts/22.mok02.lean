set_option maxRecDepth 100000 in
theorem mk_41 : mokB tFL tML tCF tKC tKL tCL tOI tAC tSL tMX 4 mm_41 = true := by decide +kernel
theorem mo_41 : mok lw_good gP mm_41 := mokB_ok tabs_ok (oc := 4) (by decide) (by decide) rfl mk_41
set_option maxRecDepth 100000 in
theorem mk_42 : mokB tFL tML tCF tKC tKL tCL tOI tAC tSL tMX 4 mm_42 = true := by decide +kernel
theorem mo_42 : mok lw_good gP mm_42 := mokB_ok tabs_ok (oc := 4) (by decide) (by decide) rfl mk_42
set_option maxRecDepth 100000 in
theorem mk_43 : mokB tFL tML tCF tKC tKL tCL tOI tAC tSL tMX 4 mm_43 = true := by decide +kernel
theorem mo_43 : mok lw_good gP mm_43 := mokB_ok tabs_ok (oc := 4) (by decide) (by decide) rfl mk_43
set_option maxRecDepth 100000 in
theorem mk_44 : mokB tFL tML tCF tKC tKL tCL tOI tAC tSL tMX 4 mm_44 = true := by decide +kernel
theorem mo_44 : mok lw_good gP mm_44 := mokB_ok tabs_ok (oc := 4) (by decide) (by decide) rfl mk_44
set_option maxRecDepth 100000 in
theorem mk_45 : mokB tFL tML tCF tKC tKL tCL tOI tAC tSL tMX 4 mm_45 = true := by decide +kernel
theorem mo_45 : mok lw_good gP mm_45 := mokB_ok tabs_ok (oc := 4) (by decide) (by decide) rfl mk_45
set_option maxRecDepth 100000 in
theorem mk_46 : mokB tFL tML tCF tKC tKL tCL tOI tAC tSL tMX 4 mm_46 = true := by decide +kernel
theorem mo_46 : mok lw_good gP mm_46 := mokB_ok tabs_ok (oc := 4) (by decide) (by decide) rfl mk_46
set_option maxRecDepth 100000 in
theorem mk_47 : mokB tFL tML tCF tKC tKL tCL tOI tAC tSL tMX 4 mm_47 = true := by decide +kernel
theorem mo_47 : mok lw_good gP mm_47 := mokB_ok tabs_ok (oc := 4) (by decide) (by decide) rfl mk_47
set_option maxRecDepth 100000 in
theorem mk_48 : mokB tFL tML tCF tKC tKL tCL tOI tAC tSL tMX 4 mm_48 = true := by decide +kernel
theorem mo_48 : mok lw_good gP mm_48 := mokB_ok tabs_ok (oc := 4) (by decide) (by decide) rfl mk_48
set_option maxRecDepth 100000 in
theorem mk_49 : mokB tFL tML tCF tKC tKL tCL tOI tAC tSL tMX 4 mm_49 = true := by decide +kernel
theorem mo_49 : mok lw_good gP mm_49 := mokB_ok tabs_ok (oc := 4) (by decide) (by decide) rfl mk_49
set_option maxRecDepth 100000 in
theorem mk_50 : mokB tFL tML tCF tKC tKL tCL tOI tAC tSL tMX 4 mm_50 = true := by decide +kernel
theorem mo_50 : mok lw_good gP mm_50 := mokB_ok tabs_ok (oc := 4) (by decide) (by decide) rfl mk_50
set_option maxRecDepth 100000 in
theorem mk_51 : mokB tFL tML tCF tKC tKL tCL tOI tAC tSL tMX 4 mm_51 = true := by decide +kernel
theorem mo_51 : mok lw_good gP mm_51 := mokB_ok tabs_ok (oc := 4) (by decide) (by decide) rfl mk_51
set_option maxRecDepth 100000 in
theorem mk_52 : mokB tFL tML tCF tKC tKL tCL tOI tAC tSL tMX 4 mm_52 = true := by decide +kernel
theorem mo_52 : mok lw_good gP mm_52 := mokB_ok tabs_ok (oc := 4) (by decide) (by decide) rfl mk_52
set_option maxRecDepth 100000 in
theorem mk_53_0 : cd_53_0.all (fun q => eokB tFL tML tCF tKC tKL tCL tOI tAC tSL tMX 4 (mm_53.1.name == "<init>") mm_53.2.1 q.1 q.2) = true := by decide +kernel
set_option maxRecDepth 100000 in
theorem mk_53_1 : cd_53_1.all (fun q => eokB tFL tML tCF tKC tKL tCL tOI tAC tSL tMX 4 (mm_53.1.name == "<init>") mm_53.2.1 q.1 q.2) = true := by decide +kernel
set_option maxRecDepth 100000 in
theorem mk_53_2 : cd_53_2.all (fun q => eokB tFL tML tCF tKC tKL tCL tOI tAC tSL tMX 4 (mm_53.1.name == "<init>") mm_53.2.1 q.1 q.2) = true := by decide +kernel
set_option maxRecDepth 100000 in
theorem mk_53_3 : cd_53_3.all (fun q => eokB tFL tML tCF tKC tKL tCL tOI tAC tSL tMX 4 (mm_53.1.name == "<init>") mm_53.2.1 q.1 q.2) = true := by decide +kernel
set_option maxRecDepth 100000 in
theorem mk_53_4 : cd_53_4.all (fun q => eokB tFL tML tCF tKC tKL tCL tOI tAC tSL tMX 4 (mm_53.1.name == "<init>") mm_53.2.1 q.1 q.2) = true := by decide +kernel
set_option maxRecDepth 100000 in
theorem mk_53_5 : cd_53_5.all (fun q => eokB tFL tML tCF tKC tKL tCL tOI tAC tSL tMX 4 (mm_53.1.name == "<init>") mm_53.2.1 q.1 q.2) = true := by decide +kernel
theorem mk_53 : mokB tFL tML tCF tKC tKL tCL tOI tAC tSL tMX 4 mm_53 = true := by
  show (cd_53_0 ++ (cd_53_1 ++ (cd_53_2 ++ (cd_53_3 ++ (cd_53_4 ++ (cd_53_5)))))).all (fun q => eokB tFL tML tCF tKC tKL tCL tOI tAC tSL tMX 4 (mm_53.1.name == "<init>") mm_53.2.1 q.1 q.2) = true
  simp only [List.all_append, mk_53_0, mk_53_1, mk_53_2, mk_53_3, mk_53_4, mk_53_5, Bool.and_self]
theorem mo_53 : mok lw_good gP mm_53 := mokB_ok tabs_ok (oc := 4) (by decide) (by decide) rfl mk_53
set_option maxRecDepth 100000 in
theorem mk_54 : mokB tFL tML tCF tKC tKL tCL tOI tAC tSL tMX 4 mm_54 = true := by decide +kernel
theorem mo_54 : mok lw_good gP mm_54 := mokB_ok tabs_ok (oc := 4) (by decide) (by decide) rfl mk_54
set_option maxRecDepth 100000 in
theorem mk_55 : mokB tFL tML tCF tKC tKL tCL tOI tAC tSL tMX 4 mm_55 = true := by decide +kernel
theorem mo_55 : mok lw_good gP mm_55 := mokB_ok tabs_ok (oc := 4) (by decide) (by decide) rfl mk_55
set_option maxRecDepth 100000 in
theorem mk_56 : mokB tFL tML tCF tKC tKL tCL tOI tAC tSL tMX 4 mm_56 = true := by decide +kernel
theorem mo_56 : mok lw_good gP mm_56 := mokB_ok tabs_ok (oc := 4) (by decide) (by decide) rfl mk_56
set_option maxRecDepth 100000 in
theorem mk_57 : mokB tFL tML tCF tKC tKL tCL tOI tAC tSL tMX 4 mm_57 = true := by decide +kernel
theorem mo_57 : mok lw_good gP mm_57 := mokB_ok tabs_ok (oc := 4) (by decide) (by decide) rfl mk_57
set_option maxRecDepth 100000 in
theorem mk_58 : mokB tFL tML tCF tKC tKL tCL tOI tAC tSL tMX 4 mm_58 = true := by decide +kernel
theorem mo_58 : mok lw_good gP mm_58 := mokB_ok tabs_ok (oc := 4) (by decide) (by decide) rfl mk_58
set_option maxRecDepth 100000 in
theorem mk_59 : mokB tFL tML tCF tKC tKL tCL tOI tAC tSL tMX 4 mm_59 = true := by decide +kernel
theorem mo_59 : mok lw_good gP mm_59 := mokB_ok tabs_ok (oc := 4) (by decide) (by decide) rfl mk_59
set_option maxRecDepth 100000 in
theorem mk_60 : mokB tFL tML tCF tKC tKL tCL tOI tAC tSL tMX 5 mm_60 = true := by decide +kernel
theorem mo_60 : mok lw_good gP mm_60 := mokB_ok tabs_ok (oc := 5) (by decide) (by decide) rfl mk_60
set_option maxRecDepth 100000 in
theorem mk_61 : mokB tFL tML tCF tKC tKL tCL tOI tAC tSL tMX 5 mm_61 = true := by decide +kernel
theorem mo_61 : mok lw_good gP mm_61 := mokB_ok tabs_ok (oc := 5) (by decide) (by decide) rfl mk_61
set_option maxRecDepth 100000 in
theorem mk_62 : mokB tFL tML tCF tKC tKL tCL tOI tAC tSL tMX 5 mm_62 = true := by decide +kernel
theorem mo_62 : mok lw_good gP mm_62 := mokB_ok tabs_ok (oc := 5) (by decide) (by decide) rfl mk_62
set_option maxRecDepth 100000 in
theorem mk_63 : mokB tFL tML tCF tKC tKL tCL tOI tAC tSL tMX 5 mm_63 = true := by decide +kernel
theorem mo_63 : mok lw_good gP mm_63 := mokB_ok tabs_ok (oc := 5) (by decide) (by decide) rfl mk_63
set_option maxRecDepth 100000 in
theorem mk_64 : mokB tFL tML tCF tKC tKL tCL tOI tAC tSL tMX 5 mm_64 = true := by decide +kernel
theorem mo_64 : mok lw_good gP mm_64 := mokB_ok tabs_ok (oc := 5) (by decide) (by decide) rfl mk_64
set_option maxRecDepth 100000 in
theorem mk_65 : mokB tFL tML tCF tKC tKL tCL tOI tAC tSL tMX 5 mm_65 = true := by decide +kernel
theorem mo_65 : mok lw_good gP mm_65 := mokB_ok tabs_ok (oc := 5) (by decide) (by decide) rfl mk_65
set_option maxRecDepth 100000 in
theorem mk_66 : mokB tFL tML tCF tKC tKL tCL tOI tAC tSL tMX 5 mm_66 = true := by decide +kernel
theorem mo_66 : mok lw_good gP mm_66 := mokB_ok tabs_ok (oc := 5) (by decide) (by decide) rfl mk_66
set_option maxRecDepth 100000 in
theorem mk_67 : mokB tFL tML tCF tKC tKL tCL tOI tAC tSL tMX 5 mm_67 = true := by decide +kernel
theorem mo_67 : mok lw_good gP mm_67 := mokB_ok tabs_ok (oc := 5) (by decide) (by decide) rfl mk_67
set_option maxRecDepth 100000 in
theorem mk_68 : mokB tFL tML tCF tKC tKL tCL tOI tAC tSL tMX 5 mm_68 = true := by decide +kernel
theorem mo_68 : mok lw_good gP mm_68 := mokB_ok tabs_ok (oc := 5) (by decide) (by decide) rfl mk_68
set_option maxRecDepth 100000 in
theorem mk_69 : mokB tFL tML tCF tKC tKL tCL tOI tAC tSL tMX 5 mm_69 = true := by decide +kernel
theorem mo_69 : mok lw_good gP mm_69 := mokB_ok tabs_ok (oc := 5) (by decide) (by decide) rfl mk_69
set_option maxRecDepth 100000 in
theorem mk_70 : mokB tFL tML tCF tKC tKL tCL tOI tAC tSL tMX 5 mm_70 = true := by decide +kernel
theorem mo_70 : mok lw_good gP mm_70 := mokB_ok tabs_ok (oc := 5) (by decide) (by decide) rfl mk_70
set_option maxRecDepth 100000 in
theorem mk_71 : mokB tFL tML tCF tKC tKL tCL tOI tAC tSL tMX 5 mm_71 = true := by decide +kernel
theorem mo_71 : mok lw_good gP mm_71 := mokB_ok tabs_ok (oc := 5) (by decide) (by decide) rfl mk_71
set_option maxRecDepth 100000 in
theorem mk_72 : mokB tFL tML tCF tKC tKL tCL tOI tAC tSL tMX 6 mm_72 = true := by decide +kernel
theorem mo_72 : mok lw_good gP mm_72 := mokB_ok tabs_ok (oc := 6) (by decide) (by decide) rfl mk_72
set_option maxRecDepth 100000 in
theorem mk_73 : mokB tFL tML tCF tKC tKL tCL tOI tAC tSL tMX 6 mm_73 = true := by decide +kernel
theorem mo_73 : mok lw_good gP mm_73 := mokB_ok tabs_ok (oc := 6) (by decide) (by decide) rfl mk_73
set_option maxRecDepth 100000 in
theorem mk_74 : mokB tFL tML tCF tKC tKL tCL tOI tAC tSL tMX 6 mm_74 = true := by decide +kernel
theorem mo_74 : mok lw_good gP mm_74 := mokB_ok tabs_ok (oc := 6) (by decide) (by decide) rfl mk_74
set_option maxRecDepth 100000 in
theorem mk_75 : mokB tFL tML tCF tKC tKL tCL tOI tAC tSL tMX 6 mm_75 = true := by decide +kernel
theorem mo_75 : mok lw_good gP mm_75 := mokB_ok tabs_ok (oc := 6) (by decide) (by decide) rfl mk_75
set_option maxRecDepth 100000 in
theorem mk_76 : mokB tFL tML tCF tKC tKL tCL tOI tAC tSL tMX 6 mm_76 = true := by decide +kernel
theorem mo_76 : mok lw_good gP mm_76 := mokB_ok tabs_ok (oc := 6) (by decide) (by decide) rfl mk_76
set_option maxRecDepth 100000 in
theorem mk_77 : mokB tFL tML tCF tKC tKL tCL tOI tAC tSL tMX 6 mm_77 = true := by decide +kernel
theorem mo_77 : mok lw_good gP mm_77 := mokB_ok tabs_ok (oc := 6) (by decide) (by decide) rfl mk_77
set_option maxRecDepth 100000 in
theorem mk_78 : mokB tFL tML tCF tKC tKL tCL tOI tAC tSL tMX 6 mm_78 = true := by decide +kernel
theorem mo_78 : mok lw_good gP mm_78 := mokB_ok tabs_ok (oc := 6) (by decide) (by decide) rfl mk_78
set_option maxRecDepth 100000 in
theorem mk_79 : mokB tFL tML tCF tKC tKL tCL tOI tAC tSL tMX 6 mm_79 = true := by decide +kernel
theorem mo_79 : mok lw_good gP mm_79 := mokB_ok tabs_ok (oc := 6) (by decide) (by decide) rfl mk_79
set_option maxRecDepth 100000 in
theorem mk_80 : mokB tFL tML tCF tKC tKL tCL tOI tAC tSL tMX 6 mm_80 = true := by decide +kernel
theorem mo_80 : mok lw_good gP mm_80 := mokB_ok tabs_ok (oc := 6) (by decide) (by decide) rfl mk_80
