set_option maxRecDepth 100000 in
theorem mk_177 : mokB tFL tML tCF tKC tKL tCL tOI tAC tSL tMX 11 mm_177 = true := by decide +kernel
theorem mo_177 : mok lw_good gP mm_177 := mokB_ok tabs_ok (oc := 11) (by decide) (by decide) rfl mk_177
set_option maxRecDepth 100000 in
theorem mk_178 : mokB tFL tML tCF tKC tKL tCL tOI tAC tSL tMX 11 mm_178 = true := by decide +kernel
theorem mo_178 : mok lw_good gP mm_178 := mokB_ok tabs_ok (oc := 11) (by decide) (by decide) rfl mk_178
set_option maxRecDepth 100000 in
theorem mk_179 : mokB tFL tML tCF tKC tKL tCL tOI tAC tSL tMX 11 mm_179 = true := by decide +kernel
theorem mo_179 : mok lw_good gP mm_179 := mokB_ok tabs_ok (oc := 11) (by decide) (by decide) rfl mk_179
set_option maxRecDepth 100000 in
theorem mk_180 : mokB tFL tML tCF tKC tKL tCL tOI tAC tSL tMX 11 mm_180 = true := by decide +kernel
theorem mo_180 : mok lw_good gP mm_180 := mokB_ok tabs_ok (oc := 11) (by decide) (by decide) rfl mk_180
set_option maxRecDepth 100000 in
theorem mk_181 : mokB tFL tML tCF tKC tKL tCL tOI tAC tSL tMX 11 mm_181 = true := by decide +kernel
theorem mo_181 : mok lw_good gP mm_181 := mokB_ok tabs_ok (oc := 11) (by decide) (by decide) rfl mk_181
set_option maxRecDepth 100000 in
theorem mk_182 : mokB tFL tML tCF tKC tKL tCL tOI tAC tSL tMX 11 mm_182 = true := by decide +kernel
theorem mo_182 : mok lw_good gP mm_182 := mokB_ok tabs_ok (oc := 11) (by decide) (by decide) rfl mk_182
set_option maxRecDepth 100000 in
theorem mk_183 : mokB tFL tML tCF tKC tKL tCL tOI tAC tSL tMX 11 mm_183 = true := by decide +kernel
theorem mo_183 : mok lw_good gP mm_183 := mokB_ok tabs_ok (oc := 11) (by decide) (by decide) rfl mk_183
set_option maxRecDepth 100000 in
theorem mk_184 : mokB tFL tML tCF tKC tKL tCL tOI tAC tSL tMX 11 mm_184 = true := by decide +kernel
theorem mo_184 : mok lw_good gP mm_184 := mokB_ok tabs_ok (oc := 11) (by decide) (by decide) rfl mk_184
set_option maxRecDepth 100000 in
theorem mk_185 : mokB tFL tML tCF tKC tKL tCL tOI tAC tSL tMX 11 mm_185 = true := by decide +kernel
theorem mo_185 : mok lw_good gP mm_185 := mokB_ok tabs_ok (oc := 11) (by decide) (by decide) rfl mk_185
set_option maxRecDepth 100000 in
theorem mk_186 : mokB tFL tML tCF tKC tKL tCL tOI tAC tSL tMX 11 mm_186 = true := by decide +kernel
theorem mo_186 : mok lw_good gP mm_186 := mokB_ok tabs_ok (oc := 11) (by decide) (by decide) rfl mk_186
set_option maxRecDepth 100000 in
theorem mk_187_0 : cd_187_0.all (fun q => eokB tFL tML tCF tKC tKL tCL tOI tAC tSL tMX 12 (mm_187.1.name == "<init>") mm_187.2.1 q.1 q.2) = true := by decide +kernel
set_option maxRecDepth 100000 in
theorem mk_187_1 : cd_187_1.all (fun q => eokB tFL tML tCF tKC tKL tCL tOI tAC tSL tMX 12 (mm_187.1.name == "<init>") mm_187.2.1 q.1 q.2) = true := by decide +kernel
set_option maxRecDepth 100000 in
theorem mk_187_2 : cd_187_2.all (fun q => eokB tFL tML tCF tKC tKL tCL tOI tAC tSL tMX 12 (mm_187.1.name == "<init>") mm_187.2.1 q.1 q.2) = true := by decide +kernel
set_option maxRecDepth 100000 in
theorem mk_187_3 : cd_187_3.all (fun q => eokB tFL tML tCF tKC tKL tCL tOI tAC tSL tMX 12 (mm_187.1.name == "<init>") mm_187.2.1 q.1 q.2) = true := by decide +kernel
set_option maxRecDepth 100000 in
theorem mk_187_4 : cd_187_4.all (fun q => eokB tFL tML tCF tKC tKL tCL tOI tAC tSL tMX 12 (mm_187.1.name == "<init>") mm_187.2.1 q.1 q.2) = true := by decide +kernel
set_option maxRecDepth 100000 in
theorem mk_187_5 : cd_187_5.all (fun q => eokB tFL tML tCF tKC tKL tCL tOI tAC tSL tMX 12 (mm_187.1.name == "<init>") mm_187.2.1 q.1 q.2) = true := by decide +kernel
set_option maxRecDepth 100000 in
theorem mk_187_6 : cd_187_6.all (fun q => eokB tFL tML tCF tKC tKL tCL tOI tAC tSL tMX 12 (mm_187.1.name == "<init>") mm_187.2.1 q.1 q.2) = true := by decide +kernel
set_option maxRecDepth 100000 in
theorem mk_187_7 : cd_187_7.all (fun q => eokB tFL tML tCF tKC tKL tCL tOI tAC tSL tMX 12 (mm_187.1.name == "<init>") mm_187.2.1 q.1 q.2) = true := by decide +kernel
set_option maxRecDepth 100000 in
theorem mk_187_8 : cd_187_8.all (fun q => eokB tFL tML tCF tKC tKL tCL tOI tAC tSL tMX 12 (mm_187.1.name == "<init>") mm_187.2.1 q.1 q.2) = true := by decide +kernel
set_option maxRecDepth 100000 in
theorem mk_187_9 : cd_187_9.all (fun q => eokB tFL tML tCF tKC tKL tCL tOI tAC tSL tMX 12 (mm_187.1.name == "<init>") mm_187.2.1 q.1 q.2) = true := by decide +kernel
set_option maxRecDepth 100000 in
theorem mk_187_10 : cd_187_10.all (fun q => eokB tFL tML tCF tKC tKL tCL tOI tAC tSL tMX 12 (mm_187.1.name == "<init>") mm_187.2.1 q.1 q.2) = true := by decide +kernel
set_option maxRecDepth 100000 in
theorem mk_187_11 : cd_187_11.all (fun q => eokB tFL tML tCF tKC tKL tCL tOI tAC tSL tMX 12 (mm_187.1.name == "<init>") mm_187.2.1 q.1 q.2) = true := by decide +kernel
set_option maxRecDepth 100000 in
theorem mk_187_12 : cd_187_12.all (fun q => eokB tFL tML tCF tKC tKL tCL tOI tAC tSL tMX 12 (mm_187.1.name == "<init>") mm_187.2.1 q.1 q.2) = true := by decide +kernel
set_option maxRecDepth 100000 in
theorem mk_187_13 : cd_187_13.all (fun q => eokB tFL tML tCF tKC tKL tCL tOI tAC tSL tMX 12 (mm_187.1.name == "<init>") mm_187.2.1 q.1 q.2) = true := by decide +kernel
theorem mk_187 : mokB tFL tML tCF tKC tKL tCL tOI tAC tSL tMX 12 mm_187 = true := by
  show (cd_187_0 ++ (cd_187_1 ++ (cd_187_2 ++ (cd_187_3 ++ (cd_187_4 ++ (cd_187_5 ++ (cd_187_6 ++ (cd_187_7 ++ (cd_187_8 ++ (cd_187_9 ++ (cd_187_10 ++ (cd_187_11 ++ (cd_187_12 ++ (cd_187_13)))))))))))))).all (fun q => eokB tFL tML tCF tKC tKL tCL tOI tAC tSL tMX 12 (mm_187.1.name == "<init>") mm_187.2.1 q.1 q.2) = true
  simp only [List.all_append, mk_187_0, mk_187_1, mk_187_2, mk_187_3, mk_187_4, mk_187_5, mk_187_6, mk_187_7, mk_187_8, mk_187_9, mk_187_10, mk_187_11, mk_187_12, mk_187_13, Bool.and_self]
theorem mo_187 : mok lw_good gP mm_187 := mokB_ok tabs_ok (oc := 12) (by decide) (by decide) rfl mk_187
set_option maxRecDepth 100000 in
theorem mk_188 : mokB tFL tML tCF tKC tKL tCL tOI tAC tSL tMX 12 mm_188 = true := by decide +kernel
theorem mo_188 : mok lw_good gP mm_188 := mokB_ok tabs_ok (oc := 12) (by decide) (by decide) rfl mk_188
set_option maxRecDepth 100000 in
theorem mk_189 : mokB tFL tML tCF tKC tKL tCL tOI tAC tSL tMX 12 mm_189 = true := by decide +kernel
theorem mo_189 : mok lw_good gP mm_189 := mokB_ok tabs_ok (oc := 12) (by decide) (by decide) rfl mk_189
set_option maxRecDepth 100000 in
theorem mk_190 : mokB tFL tML tCF tKC tKL tCL tOI tAC tSL tMX 12 mm_190 = true := by decide +kernel
theorem mo_190 : mok lw_good gP mm_190 := mokB_ok tabs_ok (oc := 12) (by decide) (by decide) rfl mk_190
set_option maxRecDepth 100000 in
theorem mk_191 : mokB tFL tML tCF tKC tKL tCL tOI tAC tSL tMX 12 mm_191 = true := by decide +kernel
theorem mo_191 : mok lw_good gP mm_191 := mokB_ok tabs_ok (oc := 12) (by decide) (by decide) rfl mk_191
set_option maxRecDepth 100000 in
theorem mk_192 : mokB tFL tML tCF tKC tKL tCL tOI tAC tSL tMX 12 mm_192 = true := by decide +kernel
theorem mo_192 : mok lw_good gP mm_192 := mokB_ok tabs_ok (oc := 12) (by decide) (by decide) rfl mk_192
set_option maxRecDepth 100000 in
theorem mk_193 : mokB tFL tML tCF tKC tKL tCL tOI tAC tSL tMX 12 mm_193 = true := by decide +kernel
theorem mo_193 : mok lw_good gP mm_193 := mokB_ok tabs_ok (oc := 12) (by decide) (by decide) rfl mk_193
set_option maxRecDepth 100000 in
theorem mk_194 : mokB tFL tML tCF tKC tKL tCL tOI tAC tSL tMX 12 mm_194 = true := by decide +kernel
theorem mo_194 : mok lw_good gP mm_194 := mokB_ok tabs_ok (oc := 12) (by decide) (by decide) rfl mk_194
set_option maxRecDepth 100000 in
theorem mk_195 : mokB tFL tML tCF tKC tKL tCL tOI tAC tSL tMX 12 mm_195 = true := by decide +kernel
theorem mo_195 : mok lw_good gP mm_195 := mokB_ok tabs_ok (oc := 12) (by decide) (by decide) rfl mk_195
set_option maxRecDepth 100000 in
theorem mk_196 : mokB tFL tML tCF tKC tKL tCL tOI tAC tSL tMX 12 mm_196 = true := by decide +kernel
theorem mo_196 : mok lw_good gP mm_196 := mokB_ok tabs_ok (oc := 12) (by decide) (by decide) rfl mk_196
set_option maxRecDepth 100000 in
theorem mk_197_0 : cd_197_0.all (fun q => eokB tFL tML tCF tKC tKL tCL tOI tAC tSL tMX 12 (mm_197.1.name == "<init>") mm_197.2.1 q.1 q.2) = true := by decide +kernel
set_option maxRecDepth 100000 in
theorem mk_197_1 : cd_197_1.all (fun q => eokB tFL tML tCF tKC tKL tCL tOI tAC tSL tMX 12 (mm_197.1.name == "<init>") mm_197.2.1 q.1 q.2) = true := by decide +kernel
set_option maxRecDepth 100000 in
theorem mk_197_2 : cd_197_2.all (fun q => eokB tFL tML tCF tKC tKL tCL tOI tAC tSL tMX 12 (mm_197.1.name == "<init>") mm_197.2.1 q.1 q.2) = true := by decide +kernel
set_option maxRecDepth 100000 in
theorem mk_197_3 : cd_197_3.all (fun q => eokB tFL tML tCF tKC tKL tCL tOI tAC tSL tMX 12 (mm_197.1.name == "<init>") mm_197.2.1 q.1 q.2) = true := by decide +kernel
set_option maxRecDepth 100000 in
theorem mk_197_4 : cd_197_4.all (fun q => eokB tFL tML tCF tKC tKL tCL tOI tAC tSL tMX 12 (mm_197.1.name == "<init>") mm_197.2.1 q.1 q.2) = true := by decide +kernel
theorem mk_197 : mokB tFL tML tCF tKC tKL tCL tOI tAC tSL tMX 12 mm_197 = true := by
  show (cd_197_0 ++ (cd_197_1 ++ (cd_197_2 ++ (cd_197_3 ++ (cd_197_4))))).all (fun q => eokB tFL tML tCF tKC tKL tCL tOI tAC tSL tMX 12 (mm_197.1.name == "<init>") mm_197.2.1 q.1 q.2) = true
  simp only [List.all_append, mk_197_0, mk_197_1, mk_197_2, mk_197_3, mk_197_4, Bool.and_self]
theorem mo_197 : mok lw_good gP mm_197 := mokB_ok tabs_ok (oc := 12) (by decide) (by decide) rfl mk_197
set_option maxRecDepth 100000 in
theorem mk_198 : mokB tFL tML tCF tKC tKL tCL tOI tAC tSL tMX 12 mm_198 = true := by decide +kernel
theorem mo_198 : mok lw_good gP mm_198 := mokB_ok tabs_ok (oc := 12) (by decide) (by decide) rfl mk_198
set_option maxRecDepth 100000 in
theorem mk_199 : mokB tFL tML tCF tKC tKL tCL tOI tAC tSL tMX 12 mm_199 = true := by decide +kernel
theorem mo_199 : mok lw_good gP mm_199 := mokB_ok tabs_ok (oc := 12) (by decide) (by decide) rfl mk_199
set_option maxRecDepth 100000 in
theorem mk_200 : mokB tFL tML tCF tKC tKL tCL tOI tAC tSL tMX 12 mm_200 = true := by decide +kernel
theorem mo_200 : mok lw_good gP mm_200 := mokB_ok tabs_ok (oc := 12) (by decide) (by decide) rfl mk_200
set_option maxRecDepth 100000 in
theorem mk_201 : mokB tFL tML tCF tKC tKL tCL tOI tAC tSL tMX 12 mm_201 = true := by decide +kernel
theorem mo_201 : mok lw_good gP mm_201 := mokB_ok tabs_ok (oc := 12) (by decide) (by decide) rfl mk_201
set_option maxRecDepth 100000 in
theorem mk_202 : mokB tFL tML tCF tKC tKL tCL tOI tAC tSL tMX 12 mm_202 = true := by decide +kernel
theorem mo_202 : mok lw_good gP mm_202 := mokB_ok tabs_ok (oc := 12) (by decide) (by decide) rfl mk_202
set_option maxRecDepth 100000 in
theorem mk_203 : mokB tFL tML tCF tKC tKL tCL tOI tAC tSL tMX 12 mm_203 = true := by decide +kernel
theorem mo_203 : mok lw_good gP mm_203 := mokB_ok tabs_ok (oc := 12) (by decide) (by decide) rfl mk_203
set_option maxRecDepth 100000 in
theorem mk_204_0 : cd_204_0.all (fun q => eokB tFL tML tCF tKC tKL tCL tOI tAC tSL tMX 12 (mm_204.1.name == "<init>") mm_204.2.1 q.1 q.2) = true := by decide +kernel
set_option maxRecDepth 100000 in
theorem mk_204_1 : cd_204_1.all (fun q => eokB tFL tML tCF tKC tKL tCL tOI tAC tSL tMX 12 (mm_204.1.name == "<init>") mm_204.2.1 q.1 q.2) = true := by decide +kernel
set_option maxRecDepth 100000 in
theorem mk_204_2 : cd_204_2.all (fun q => eokB tFL tML tCF tKC tKL tCL tOI tAC tSL tMX 12 (mm_204.1.name == "<init>") mm_204.2.1 q.1 q.2) = true := by decide +kernel
set_option maxRecDepth 100000 in
theorem mk_204_3 : cd_204_3.all (fun q => eokB tFL tML tCF tKC tKL tCL tOI tAC tSL tMX 12 (mm_204.1.name == "<init>") mm_204.2.1 q.1 q.2) = true := by decide +kernel
set_option maxRecDepth 100000 in
theorem mk_204_4 : cd_204_4.all (fun q => eokB tFL tML tCF tKC tKL tCL tOI tAC tSL tMX 12 (mm_204.1.name == "<init>") mm_204.2.1 q.1 q.2) = true := by decide +kernel
theorem mk_204 : mokB tFL tML tCF tKC tKL tCL tOI tAC tSL tMX 12 mm_204 = true := by
  show (cd_204_0 ++ (cd_204_1 ++ (cd_204_2 ++ (cd_204_3 ++ (cd_204_4))))).all (fun q => eokB tFL tML tCF tKC tKL tCL tOI tAC tSL tMX 12 (mm_204.1.name == "<init>") mm_204.2.1 q.1 q.2) = true
  simp only [List.all_append, mk_204_0, mk_204_1, mk_204_2, mk_204_3, mk_204_4, Bool.and_self]
theorem mo_204 : mok lw_good gP mm_204 := mokB_ok tabs_ok (oc := 12) (by decide) (by decide) rfl mk_204
set_option maxRecDepth 100000 in
theorem mk_205 : mokB tFL tML tCF tKC tKL tCL tOI tAC tSL tMX 12 mm_205 = true := by decide +kernel
theorem mo_205 : mok lw_good gP mm_205 := mokB_ok tabs_ok (oc := 12) (by decide) (by decide) rfl mk_205
set_option maxRecDepth 100000 in
theorem mk_206 : mokB tFL tML tCF tKC tKL tCL tOI tAC tSL tMX 12 mm_206 = true := by decide +kernel
theorem mo_206 : mok lw_good gP mm_206 := mokB_ok tabs_ok (oc := 12) (by decide) (by decide) rfl mk_206
