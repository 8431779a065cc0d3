set_option maxRecDepth 100000 in
theorem mk_81 : mokB tFL tML tCF tKC tKL tCL tOI tAC tSL tMX 6 mm_81 = true := by decide +kernel
theorem mo_81 : mok lw_good gP mm_81 := mokB_ok tabs_ok (oc := 6) (by decide) (by decide) rfl mk_81
set_option maxRecDepth 100000 in
theorem mk_82 : mokB tFL tML tCF tKC tKL tCL tOI tAC tSL tMX 6 mm_82 = true := by decide +kernel
theorem mo_82 : mok lw_good gP mm_82 := mokB_ok tabs_ok (oc := 6) (by decide) (by decide) rfl mk_82
set_option maxRecDepth 100000 in
theorem mk_83 : mokB tFL tML tCF tKC tKL tCL tOI tAC tSL tMX 6 mm_83 = true := by decide +kernel
theorem mo_83 : mok lw_good gP mm_83 := mokB_ok tabs_ok (oc := 6) (by decide) (by decide) rfl mk_83
set_option maxRecDepth 100000 in
theorem mk_84 : mokB tFL tML tCF tKC tKL tCL tOI tAC tSL tMX 7 mm_84 = true := by decide +kernel
theorem mo_84 : mok lw_good gP mm_84 := mokB_ok tabs_ok (oc := 7) (by decide) (by decide) rfl mk_84
set_option maxRecDepth 100000 in
theorem mk_85 : mokB tFL tML tCF tKC tKL tCL tOI tAC tSL tMX 7 mm_85 = true := by decide +kernel
theorem mo_85 : mok lw_good gP mm_85 := mokB_ok tabs_ok (oc := 7) (by decide) (by decide) rfl mk_85
set_option maxRecDepth 100000 in
theorem mk_86 : mokB tFL tML tCF tKC tKL tCL tOI tAC tSL tMX 7 mm_86 = true := by decide +kernel
theorem mo_86 : mok lw_good gP mm_86 := mokB_ok tabs_ok (oc := 7) (by decide) (by decide) rfl mk_86
set_option maxRecDepth 100000 in
theorem mk_87 : mokB tFL tML tCF tKC tKL tCL tOI tAC tSL tMX 7 mm_87 = true := by decide +kernel
theorem mo_87 : mok lw_good gP mm_87 := mokB_ok tabs_ok (oc := 7) (by decide) (by decide) rfl mk_87
set_option maxRecDepth 100000 in
theorem mk_88 : mokB tFL tML tCF tKC tKL tCL tOI tAC tSL tMX 8 mm_88 = true := by decide +kernel
theorem mo_88 : mok lw_good gP mm_88 := mokB_ok tabs_ok (oc := 8) (by decide) (by decide) rfl mk_88
set_option maxRecDepth 100000 in
theorem mk_89 : mokB tFL tML tCF tKC tKL tCL tOI tAC tSL tMX 8 mm_89 = true := by decide +kernel
theorem mo_89 : mok lw_good gP mm_89 := mokB_ok tabs_ok (oc := 8) (by decide) (by decide) rfl mk_89
set_option maxRecDepth 100000 in
theorem mk_90 : mokB tFL tML tCF tKC tKL tCL tOI tAC tSL tMX 8 mm_90 = true := by decide +kernel
theorem mo_90 : mok lw_good gP mm_90 := mokB_ok tabs_ok (oc := 8) (by decide) (by decide) rfl mk_90
set_option maxRecDepth 100000 in
theorem mk_91 : mokB tFL tML tCF tKC tKL tCL tOI tAC tSL tMX 8 mm_91 = true := by decide +kernel
theorem mo_91 : mok lw_good gP mm_91 := mokB_ok tabs_ok (oc := 8) (by decide) (by decide) rfl mk_91
set_option maxRecDepth 100000 in
theorem mk_92 : mokB tFL tML tCF tKC tKL tCL tOI tAC tSL tMX 8 mm_92 = true := by decide +kernel
theorem mo_92 : mok lw_good gP mm_92 := mokB_ok tabs_ok (oc := 8) (by decide) (by decide) rfl mk_92
set_option maxRecDepth 100000 in
theorem mk_94 : mokB tFL tML tCF tKC tKL tCL tOI tAC tSL tMX 8 mm_94 = true := by decide +kernel
theorem mo_94 : mok lw_good gP mm_94 := mokB_ok tabs_ok (oc := 8) (by decide) (by decide) rfl mk_94
set_option maxRecDepth 100000 in
theorem mk_95 : mokB tFL tML tCF tKC tKL tCL tOI tAC tSL tMX 8 mm_95 = true := by decide +kernel
theorem mo_95 : mok lw_good gP mm_95 := mokB_ok tabs_ok (oc := 8) (by decide) (by decide) rfl mk_95
set_option maxRecDepth 100000 in
theorem mk_96 : mokB tFL tML tCF tKC tKL tCL tOI tAC tSL tMX 8 mm_96 = true := by decide +kernel
theorem mo_96 : mok lw_good gP mm_96 := mokB_ok tabs_ok (oc := 8) (by decide) (by decide) rfl mk_96
set_option maxRecDepth 100000 in
theorem mk_97 : mokB tFL tML tCF tKC tKL tCL tOI tAC tSL tMX 8 mm_97 = true := by decide +kernel
theorem mo_97 : mok lw_good gP mm_97 := mokB_ok tabs_ok (oc := 8) (by decide) (by decide) rfl mk_97
set_option maxRecDepth 100000 in
theorem mk_98 : mokB tFL tML tCF tKC tKL tCL tOI tAC tSL tMX 8 mm_98 = true := by decide +kernel
theorem mo_98 : mok lw_good gP mm_98 := mokB_ok tabs_ok (oc := 8) (by decide) (by decide) rfl mk_98
set_option maxRecDepth 100000 in
theorem mk_99 : mokB tFL tML tCF tKC tKL tCL tOI tAC tSL tMX 8 mm_99 = true := by decide +kernel
theorem mo_99 : mok lw_good gP mm_99 := mokB_ok tabs_ok (oc := 8) (by decide) (by decide) rfl mk_99
set_option maxRecDepth 100000 in
theorem mk_100 : mokB tFL tML tCF tKC tKL tCL tOI tAC tSL tMX 8 mm_100 = true := by decide +kernel
theorem mo_100 : mok lw_good gP mm_100 := mokB_ok tabs_ok (oc := 8) (by decide) (by decide) rfl mk_100
set_option maxRecDepth 100000 in
theorem mk_101 : mokB tFL tML tCF tKC tKL tCL tOI tAC tSL tMX 8 mm_101 = true := by decide +kernel
theorem mo_101 : mok lw_good gP mm_101 := mokB_ok tabs_ok (oc := 8) (by decide) (by decide) rfl mk_101
set_option maxRecDepth 100000 in
theorem mk_102 : mokB tFL tML tCF tKC tKL tCL tOI tAC tSL tMX 8 mm_102 = true := by decide +kernel
theorem mo_102 : mok lw_good gP mm_102 := mokB_ok tabs_ok (oc := 8) (by decide) (by decide) rfl mk_102
set_option maxRecDepth 100000 in
theorem mk_103 : mokB tFL tML tCF tKC tKL tCL tOI tAC tSL tMX 8 mm_103 = true := by decide +kernel
theorem mo_103 : mok lw_good gP mm_103 := mokB_ok tabs_ok (oc := 8) (by decide) (by decide) rfl mk_103
set_option maxRecDepth 100000 in
theorem mk_104 : mokB tFL tML tCF tKC tKL tCL tOI tAC tSL tMX 8 mm_104 = true := by decide +kernel
theorem mo_104 : mok lw_good gP mm_104 := mokB_ok tabs_ok (oc := 8) (by decide) (by decide) rfl mk_104
set_option maxRecDepth 100000 in
theorem mk_105 : mokB tFL tML tCF tKC tKL tCL tOI tAC tSL tMX 8 mm_105 = true := by decide +kernel
theorem mo_105 : mok lw_good gP mm_105 := mokB_ok tabs_ok (oc := 8) (by decide) (by decide) rfl mk_105
set_option maxRecDepth 100000 in
theorem mk_106 : mokB tFL tML tCF tKC tKL tCL tOI tAC tSL tMX 8 mm_106 = true := by decide +kernel
theorem mo_106 : mok lw_good gP mm_106 := mokB_ok tabs_ok (oc := 8) (by decide) (by decide) rfl mk_106
set_option maxRecDepth 100000 in
theorem mk_107 : mokB tFL tML tCF tKC tKL tCL tOI tAC tSL tMX 8 mm_107 = true := by decide +kernel
theorem mo_107 : mok lw_good gP mm_107 := mokB_ok tabs_ok (oc := 8) (by decide) (by decide) rfl mk_107
set_option maxRecDepth 100000 in
theorem mk_108 : mokB tFL tML tCF tKC tKL tCL tOI tAC tSL tMX 9 mm_108 = true := by decide +kernel
theorem mo_108 : mok lw_good gP mm_108 := mokB_ok tabs_ok (oc := 9) (by decide) (by decide) rfl mk_108
set_option maxRecDepth 100000 in
theorem mk_109 : mokB tFL tML tCF tKC tKL tCL tOI tAC tSL tMX 9 mm_109 = true := by decide +kernel
theorem mo_109 : mok lw_good gP mm_109 := mokB_ok tabs_ok (oc := 9) (by decide) (by decide) rfl mk_109
set_option maxRecDepth 100000 in
theorem mk_110 : mokB tFL tML tCF tKC tKL tCL tOI tAC tSL tMX 9 mm_110 = true := by decide +kernel
theorem mo_110 : mok lw_good gP mm_110 := mokB_ok tabs_ok (oc := 9) (by decide) (by decide) rfl mk_110
set_option maxRecDepth 100000 in
theorem mk_111 : mokB tFL tML tCF tKC tKL tCL tOI tAC tSL tMX 9 mm_111 = true := by decide +kernel
theorem mo_111 : mok lw_good gP mm_111 := mokB_ok tabs_ok (oc := 9) (by decide) (by decide) rfl mk_111
set_option maxRecDepth 100000 in
theorem mk_112 : mokB tFL tML tCF tKC tKL tCL tOI tAC tSL tMX 9 mm_112 = true := by decide +kernel
theorem mo_112 : mok lw_good gP mm_112 := mokB_ok tabs_ok (oc := 9) (by decide) (by decide) rfl mk_112
set_option maxRecDepth 100000 in
theorem mk_113 : mokB tFL tML tCF tKC tKL tCL tOI tAC tSL tMX 10 mm_113 = true := by decide +kernel
theorem mo_113 : mok lw_good gP mm_113 := mokB_ok tabs_ok (oc := 10) (by decide) (by decide) rfl mk_113
set_option maxRecDepth 100000 in
theorem mk_114 : mokB tFL tML tCF tKC tKL tCL tOI tAC tSL tMX 10 mm_114 = true := by decide +kernel
theorem mo_114 : mok lw_good gP mm_114 := mokB_ok tabs_ok (oc := 10) (by decide) (by decide) rfl mk_114
set_option maxRecDepth 100000 in
theorem mk_115 : mokB tFL tML tCF tKC tKL tCL tOI tAC tSL tMX 10 mm_115 = true := by decide +kernel
theorem mo_115 : mok lw_good gP mm_115 := mokB_ok tabs_ok (oc := 10) (by decide) (by decide) rfl mk_115
set_option maxRecDepth 100000 in
theorem mk_116 : mokB tFL tML tCF tKC tKL tCL tOI tAC tSL tMX 10 mm_116 = true := by decide +kernel
theorem mo_116 : mok lw_good gP mm_116 := mokB_ok tabs_ok (oc := 10) (by decide) (by decide) rfl mk_116
set_option maxRecDepth 100000 in
theorem mk_117 : mokB tFL tML tCF tKC tKL tCL tOI tAC tSL tMX 10 mm_117 = true := by decide +kernel
theorem mo_117 : mok lw_good gP mm_117 := mokB_ok tabs_ok (oc := 10) (by decide) (by decide) rfl mk_117
set_option maxRecDepth 100000 in
theorem mk_118 : mokB tFL tML tCF tKC tKL tCL tOI tAC tSL tMX 10 mm_118 = true := by decide +kernel
theorem mo_118 : mok lw_good gP mm_118 := mokB_ok tabs_ok (oc := 10) (by decide) (by decide) rfl mk_118
set_option maxRecDepth 100000 in
theorem mk_119 : mokB tFL tML tCF tKC tKL tCL tOI tAC tSL tMX 10 mm_119 = true := by decide +kernel
theorem mo_119 : mok lw_good gP mm_119 := mokB_ok tabs_ok (oc := 10) (by decide) (by decide) rfl mk_119
set_option maxRecDepth 100000 in
theorem mk_120 : mokB tFL tML tCF tKC tKL tCL tOI tAC tSL tMX 11 mm_120 = true := by decide +kernel
theorem mo_120 : mok lw_good gP mm_120 := mokB_ok tabs_ok (oc := 11) (by decide) (by decide) rfl mk_120
set_option maxRecDepth 100000 in
theorem mk_121 : mokB tFL tML tCF tKC tKL tCL tOI tAC tSL tMX 11 mm_121 = true := by decide +kernel
theorem mo_121 : mok lw_good gP mm_121 := mokB_ok tabs_ok (oc := 11) (by decide) (by decide) rfl mk_121
set_option maxRecDepth 100000 in
theorem mk_122 : mokB tFL tML tCF tKC tKL tCL tOI tAC tSL tMX 11 mm_122 = true := by decide +kernel
theorem mo_122 : mok lw_good gP mm_122 := mokB_ok tabs_ok (oc := 11) (by decide) (by decide) rfl mk_122
set_option maxRecDepth 100000 in
theorem mk_123 : mokB tFL tML tCF tKC tKL tCL tOI tAC tSL tMX 11 mm_123 = true := by decide +kernel
theorem mo_123 : mok lw_good gP mm_123 := mokB_ok tabs_ok (oc := 11) (by decide) (by decide) rfl mk_123
set_option maxRecDepth 100000 in
theorem mk_124 : mokB tFL tML tCF tKC tKL tCL tOI tAC tSL tMX 11 mm_124 = true := by decide +kernel
theorem mo_124 : mok lw_good gP mm_124 := mokB_ok tabs_ok (oc := 11) (by decide) (by decide) rfl mk_124
set_option maxRecDepth 100000 in
theorem mk_125 : mokB tFL tML tCF tKC tKL tCL tOI tAC tSL tMX 11 mm_125 = true := by decide +kernel
theorem mo_125 : mok lw_good gP mm_125 := mokB_ok tabs_ok (oc := 11) (by decide) (by decide) rfl mk_125
set_option maxRecDepth 100000 in
theorem mk_126 : mokB tFL tML tCF tKC tKL tCL tOI tAC tSL tMX 11 mm_126 = true := by decide +kernel
theorem mo_126 : mok lw_good gP mm_126 := mokB_ok tabs_ok (oc := 11) (by decide) (by decide) rfl mk_126
set_option maxRecDepth 100000 in
theorem mk_127 : mokB tFL tML tCF tKC tKL tCL tOI tAC tSL tMX 11 mm_127 = true := by decide +kernel
theorem mo_127 : mok lw_good gP mm_127 := mokB_ok tabs_ok (oc := 11) (by decide) (by decide) rfl mk_127
set_option maxRecDepth 100000 in
theorem mk_128 : mokB tFL tML tCF tKC tKL tCL tOI tAC tSL tMX 11 mm_128 = true := by decide +kernel
theorem mo_128 : mok lw_good gP mm_128 := mokB_ok tabs_ok (oc := 11) (by decide) (by decide) rfl mk_128
set_option maxRecDepth 100000 in
theorem mk_129 : mokB tFL tML tCF tKC tKL tCL tOI tAC tSL tMX 11 mm_129 = true := by decide +kernel
theorem mo_129 : mok lw_good gP mm_129 := mokB_ok tabs_ok (oc := 11) (by decide) (by decide) rfl mk_129
set_option maxRecDepth 100000 in
theorem mk_130 : mokB tFL tML tCF tKC tKL tCL tOI tAC tSL tMX 11 mm_130 = true := by decide +kernel
theorem mo_130 : mok lw_good gP mm_130 := mokB_ok tabs_ok (oc := 11) (by decide) (by decide) rfl mk_130
