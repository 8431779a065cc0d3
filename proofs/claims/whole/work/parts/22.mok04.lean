set_option maxRecDepth 100000 in
theorem mk_131 : mokB tFL tML tCF tKC tKL tCL tOI tAC tSL tMX 11 mm_131 = true := by decide +kernel
theorem mo_131 : mok lw_good gP mm_131 := mokB_ok tabs_ok (oc := 11) (by decide) (by decide) rfl mk_131
set_option maxRecDepth 100000 in
theorem mk_132 : mokB tFL tML tCF tKC tKL tCL tOI tAC tSL tMX 11 mm_132 = true := by decide +kernel
theorem mo_132 : mok lw_good gP mm_132 := mokB_ok tabs_ok (oc := 11) (by decide) (by decide) rfl mk_132
set_option maxRecDepth 100000 in
theorem mk_133 : mokB tFL tML tCF tKC tKL tCL tOI tAC tSL tMX 11 mm_133 = true := by decide +kernel
theorem mo_133 : mok lw_good gP mm_133 := mokB_ok tabs_ok (oc := 11) (by decide) (by decide) rfl mk_133
set_option maxRecDepth 100000 in
theorem mk_134 : mokB tFL tML tCF tKC tKL tCL tOI tAC tSL tMX 11 mm_134 = true := by decide +kernel
theorem mo_134 : mok lw_good gP mm_134 := mokB_ok tabs_ok (oc := 11) (by decide) (by decide) rfl mk_134
set_option maxRecDepth 100000 in
theorem mk_135 : mokB tFL tML tCF tKC tKL tCL tOI tAC tSL tMX 11 mm_135 = true := by decide +kernel
theorem mo_135 : mok lw_good gP mm_135 := mokB_ok tabs_ok (oc := 11) (by decide) (by decide) rfl mk_135
set_option maxRecDepth 100000 in
theorem mk_136 : mokB tFL tML tCF tKC tKL tCL tOI tAC tSL tMX 11 mm_136 = true := by decide +kernel
theorem mo_136 : mok lw_good gP mm_136 := mokB_ok tabs_ok (oc := 11) (by decide) (by decide) rfl mk_136
set_option maxRecDepth 100000 in
theorem mk_137 : mokB tFL tML tCF tKC tKL tCL tOI tAC tSL tMX 11 mm_137 = true := by decide +kernel
theorem mo_137 : mok lw_good gP mm_137 := mokB_ok tabs_ok (oc := 11) (by decide) (by decide) rfl mk_137
set_option maxRecDepth 100000 in
theorem mk_138 : mokB tFL tML tCF tKC tKL tCL tOI tAC tSL tMX 11 mm_138 = true := by decide +kernel
theorem mo_138 : mok lw_good gP mm_138 := mokB_ok tabs_ok (oc := 11) (by decide) (by decide) rfl mk_138
set_option maxRecDepth 100000 in
theorem mk_139 : mokB tFL tML tCF tKC tKL tCL tOI tAC tSL tMX 11 mm_139 = true := by decide +kernel
theorem mo_139 : mok lw_good gP mm_139 := mokB_ok tabs_ok (oc := 11) (by decide) (by decide) rfl mk_139
set_option maxRecDepth 100000 in
theorem mk_140 : mokB tFL tML tCF tKC tKL tCL tOI tAC tSL tMX 11 mm_140 = true := by decide +kernel
theorem mo_140 : mok lw_good gP mm_140 := mokB_ok tabs_ok (oc := 11) (by decide) (by decide) rfl mk_140
set_option maxRecDepth 100000 in
theorem mk_141 : mokB tFL tML tCF tKC tKL tCL tOI tAC tSL tMX 11 mm_141 = true := by decide +kernel
theorem mo_141 : mok lw_good gP mm_141 := mokB_ok tabs_ok (oc := 11) (by decide) (by decide) rfl mk_141
set_option maxRecDepth 100000 in
theorem mk_142 : mokB tFL tML tCF tKC tKL tCL tOI tAC tSL tMX 11 mm_142 = true := by decide +kernel
theorem mo_142 : mok lw_good gP mm_142 := mokB_ok tabs_ok (oc := 11) (by decide) (by decide) rfl mk_142
set_option maxRecDepth 100000 in
theorem mk_143 : mokB tFL tML tCF tKC tKL tCL tOI tAC tSL tMX 11 mm_143 = true := by decide +kernel
theorem mo_143 : mok lw_good gP mm_143 := mokB_ok tabs_ok (oc := 11) (by decide) (by decide) rfl mk_143
set_option maxRecDepth 100000 in
theorem mk_144 : mokB tFL tML tCF tKC tKL tCL tOI tAC tSL tMX 11 mm_144 = true := by decide +kernel
theorem mo_144 : mok lw_good gP mm_144 := mokB_ok tabs_ok (oc := 11) (by decide) (by decide) rfl mk_144
set_option maxRecDepth 100000 in
theorem mk_145 : mokB tFL tML tCF tKC tKL tCL tOI tAC tSL tMX 11 mm_145 = true := by decide +kernel
theorem mo_145 : mok lw_good gP mm_145 := mokB_ok tabs_ok (oc := 11) (by decide) (by decide) rfl mk_145
set_option maxRecDepth 100000 in
theorem mk_146 : mokB tFL tML tCF tKC tKL tCL tOI tAC tSL tMX 11 mm_146 = true := by decide +kernel
theorem mo_146 : mok lw_good gP mm_146 := mokB_ok tabs_ok (oc := 11) (by decide) (by decide) rfl mk_146
set_option maxRecDepth 100000 in
theorem mk_147 : mokB tFL tML tCF tKC tKL tCL tOI tAC tSL tMX 11 mm_147 = true := by decide +kernel
theorem mo_147 : mok lw_good gP mm_147 := mokB_ok tabs_ok (oc := 11) (by decide) (by decide) rfl mk_147
set_option maxRecDepth 100000 in
theorem mk_148 : mokB tFL tML tCF tKC tKL tCL tOI tAC tSL tMX 11 mm_148 = true := by decide +kernel
theorem mo_148 : mok lw_good gP mm_148 := mokB_ok tabs_ok (oc := 11) (by decide) (by decide) rfl mk_148
set_option maxRecDepth 100000 in
theorem mk_149 : mokB tFL tML tCF tKC tKL tCL tOI tAC tSL tMX 11 mm_149 = true := by decide +kernel
theorem mo_149 : mok lw_good gP mm_149 := mokB_ok tabs_ok (oc := 11) (by decide) (by decide) rfl mk_149
set_option maxRecDepth 100000 in
theorem mk_150 : mokB tFL tML tCF tKC tKL tCL tOI tAC tSL tMX 11 mm_150 = true := by decide +kernel
theorem mo_150 : mok lw_good gP mm_150 := mokB_ok tabs_ok (oc := 11) (by decide) (by decide) rfl mk_150
set_option maxRecDepth 100000 in
theorem mk_151 : mokB tFL tML tCF tKC tKL tCL tOI tAC tSL tMX 11 mm_151 = true := by decide +kernel
theorem mo_151 : mok lw_good gP mm_151 := mokB_ok tabs_ok (oc := 11) (by decide) (by decide) rfl mk_151
set_option maxRecDepth 100000 in
theorem mk_152 : mokB tFL tML tCF tKC tKL tCL tOI tAC tSL tMX 11 mm_152 = true := by decide +kernel
theorem mo_152 : mok lw_good gP mm_152 := mokB_ok tabs_ok (oc := 11) (by decide) (by decide) rfl mk_152
set_option maxRecDepth 100000 in
theorem mk_153 : mokB tFL tML tCF tKC tKL tCL tOI tAC tSL tMX 11 mm_153 = true := by decide +kernel
theorem mo_153 : mok lw_good gP mm_153 := mokB_ok tabs_ok (oc := 11) (by decide) (by decide) rfl mk_153
set_option maxRecDepth 100000 in
theorem mk_154 : mokB tFL tML tCF tKC tKL tCL tOI tAC tSL tMX 11 mm_154 = true := by decide +kernel
theorem mo_154 : mok lw_good gP mm_154 := mokB_ok tabs_ok (oc := 11) (by decide) (by decide) rfl mk_154
set_option maxRecDepth 100000 in
theorem mk_155 : mokB tFL tML tCF tKC tKL tCL tOI tAC tSL tMX 11 mm_155 = true := by decide +kernel
theorem mo_155 : mok lw_good gP mm_155 := mokB_ok tabs_ok (oc := 11) (by decide) (by decide) rfl mk_155
set_option maxRecDepth 100000 in
theorem mk_156 : mokB tFL tML tCF tKC tKL tCL tOI tAC tSL tMX 11 mm_156 = true := by decide +kernel
theorem mo_156 : mok lw_good gP mm_156 := mokB_ok tabs_ok (oc := 11) (by decide) (by decide) rfl mk_156
set_option maxRecDepth 100000 in
theorem mk_157 : mokB tFL tML tCF tKC tKL tCL tOI tAC tSL tMX 11 mm_157 = true := by decide +kernel
theorem mo_157 : mok lw_good gP mm_157 := mokB_ok tabs_ok (oc := 11) (by decide) (by decide) rfl mk_157
set_option maxRecDepth 100000 in
theorem mk_158 : mokB tFL tML tCF tKC tKL tCL tOI tAC tSL tMX 11 mm_158 = true := by decide +kernel
theorem mo_158 : mok lw_good gP mm_158 := mokB_ok tabs_ok (oc := 11) (by decide) (by decide) rfl mk_158
set_option maxRecDepth 100000 in
theorem mk_159 : mokB tFL tML tCF tKC tKL tCL tOI tAC tSL tMX 11 mm_159 = true := by decide +kernel
theorem mo_159 : mok lw_good gP mm_159 := mokB_ok tabs_ok (oc := 11) (by decide) (by decide) rfl mk_159
set_option maxRecDepth 100000 in
theorem mk_160 : mokB tFL tML tCF tKC tKL tCL tOI tAC tSL tMX 11 mm_160 = true := by decide +kernel
theorem mo_160 : mok lw_good gP mm_160 := mokB_ok tabs_ok (oc := 11) (by decide) (by decide) rfl mk_160
set_option maxRecDepth 100000 in
theorem mk_161 : mokB tFL tML tCF tKC tKL tCL tOI tAC tSL tMX 11 mm_161 = true := by decide +kernel
theorem mo_161 : mok lw_good gP mm_161 := mokB_ok tabs_ok (oc := 11) (by decide) (by decide) rfl mk_161
set_option maxRecDepth 100000 in
theorem mk_162 : mokB tFL tML tCF tKC tKL tCL tOI tAC tSL tMX 11 mm_162 = true := by decide +kernel
theorem mo_162 : mok lw_good gP mm_162 := mokB_ok tabs_ok (oc := 11) (by decide) (by decide) rfl mk_162
set_option maxRecDepth 100000 in
theorem mk_163 : mokB tFL tML tCF tKC tKL tCL tOI tAC tSL tMX 11 mm_163 = true := by decide +kernel
theorem mo_163 : mok lw_good gP mm_163 := mokB_ok tabs_ok (oc := 11) (by decide) (by decide) rfl mk_163
set_option maxRecDepth 100000 in
theorem mk_164 : mokB tFL tML tCF tKC tKL tCL tOI tAC tSL tMX 11 mm_164 = true := by decide +kernel
theorem mo_164 : mok lw_good gP mm_164 := mokB_ok tabs_ok (oc := 11) (by decide) (by decide) rfl mk_164
set_option maxRecDepth 100000 in
theorem mk_165 : mokB tFL tML tCF tKC tKL tCL tOI tAC tSL tMX 11 mm_165 = true := by decide +kernel
theorem mo_165 : mok lw_good gP mm_165 := mokB_ok tabs_ok (oc := 11) (by decide) (by decide) rfl mk_165
set_option maxRecDepth 100000 in
theorem mk_166 : mokB tFL tML tCF tKC tKL tCL tOI tAC tSL tMX 11 mm_166 = true := by decide +kernel
theorem mo_166 : mok lw_good gP mm_166 := mokB_ok tabs_ok (oc := 11) (by decide) (by decide) rfl mk_166
set_option maxRecDepth 100000 in
theorem mk_167 : mokB tFL tML tCF tKC tKL tCL tOI tAC tSL tMX 11 mm_167 = true := by decide +kernel
theorem mo_167 : mok lw_good gP mm_167 := mokB_ok tabs_ok (oc := 11) (by decide) (by decide) rfl mk_167
set_option maxRecDepth 100000 in
theorem mk_168 : mokB tFL tML tCF tKC tKL tCL tOI tAC tSL tMX 11 mm_168 = true := by decide +kernel
theorem mo_168 : mok lw_good gP mm_168 := mokB_ok tabs_ok (oc := 11) (by decide) (by decide) rfl mk_168
set_option maxRecDepth 100000 in
theorem mk_169 : mokB tFL tML tCF tKC tKL tCL tOI tAC tSL tMX 11 mm_169 = true := by decide +kernel
theorem mo_169 : mok lw_good gP mm_169 := mokB_ok tabs_ok (oc := 11) (by decide) (by decide) rfl mk_169
set_option maxRecDepth 100000 in
theorem mk_170 : mokB tFL tML tCF tKC tKL tCL tOI tAC tSL tMX 11 mm_170 = true := by decide +kernel
theorem mo_170 : mok lw_good gP mm_170 := mokB_ok tabs_ok (oc := 11) (by decide) (by decide) rfl mk_170
set_option maxRecDepth 100000 in
theorem mk_171 : mokB tFL tML tCF tKC tKL tCL tOI tAC tSL tMX 11 mm_171 = true := by decide +kernel
theorem mo_171 : mok lw_good gP mm_171 := mokB_ok tabs_ok (oc := 11) (by decide) (by decide) rfl mk_171
set_option maxRecDepth 100000 in
theorem mk_172 : mokB tFL tML tCF tKC tKL tCL tOI tAC tSL tMX 11 mm_172 = true := by decide +kernel
theorem mo_172 : mok lw_good gP mm_172 := mokB_ok tabs_ok (oc := 11) (by decide) (by decide) rfl mk_172
set_option maxRecDepth 100000 in
theorem mk_173 : mokB tFL tML tCF tKC tKL tCL tOI tAC tSL tMX 11 mm_173 = true := by decide +kernel
theorem mo_173 : mok lw_good gP mm_173 := mokB_ok tabs_ok (oc := 11) (by decide) (by decide) rfl mk_173
set_option maxRecDepth 100000 in
theorem mk_174 : mokB tFL tML tCF tKC tKL tCL tOI tAC tSL tMX 11 mm_174 = true := by decide +kernel
theorem mo_174 : mok lw_good gP mm_174 := mokB_ok tabs_ok (oc := 11) (by decide) (by decide) rfl mk_174
set_option maxRecDepth 100000 in
theorem mk_175 : mokB tFL tML tCF tKC tKL tCL tOI tAC tSL tMX 11 mm_175 = true := by decide +kernel
theorem mo_175 : mok lw_good gP mm_175 := mokB_ok tabs_ok (oc := 11) (by decide) (by decide) rfl mk_175
set_option maxRecDepth 100000 in
theorem mk_176 : mokB tFL tML tCF tKC tKL tCL tOI tAC tSL tMX 11 mm_176 = true := by decide +kernel
theorem mo_176 : mok lw_good gP mm_176 := mokB_ok tabs_ok (oc := 11) (by decide) (by decide) rfl mk_176
