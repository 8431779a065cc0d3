set_option maxRecDepth 100000 in
theorem mk_207 : mokB tFL tML tCF tKC tKL tCL tOI tAC tSL tMX 12 mm_207 = true := by decide +kernel
theorem mo_207 : mok lw_good gP mm_207 := mokB_ok tabs_ok (oc := 12) (by decide) (by decide) rfl mk_207
set_option maxRecDepth 100000 in
theorem mk_208_0 : cd_208_0.all (fun q => eokB tFL tML tCF tKC tKL tCL tOI tAC tSL tMX 12 (mm_208.1.name == "<init>") mm_208.2.1 q.1 q.2) = true := by decide +kernel
set_option maxRecDepth 100000 in
theorem mk_208_1 : cd_208_1.all (fun q => eokB tFL tML tCF tKC tKL tCL tOI tAC tSL tMX 12 (mm_208.1.name == "<init>") mm_208.2.1 q.1 q.2) = true := by decide +kernel
set_option maxRecDepth 100000 in
theorem mk_208_2 : cd_208_2.all (fun q => eokB tFL tML tCF tKC tKL tCL tOI tAC tSL tMX 12 (mm_208.1.name == "<init>") mm_208.2.1 q.1 q.2) = true := by decide +kernel
set_option maxRecDepth 100000 in
theorem mk_208_3 : cd_208_3.all (fun q => eokB tFL tML tCF tKC tKL tCL tOI tAC tSL tMX 12 (mm_208.1.name == "<init>") mm_208.2.1 q.1 q.2) = true := by decide +kernel
set_option maxRecDepth 100000 in
theorem mk_208_4 : cd_208_4.all (fun q => eokB tFL tML tCF tKC tKL tCL tOI tAC tSL tMX 12 (mm_208.1.name == "<init>") mm_208.2.1 q.1 q.2) = true := by decide +kernel
theorem mk_208 : mokB tFL tML tCF tKC tKL tCL tOI tAC tSL tMX 12 mm_208 = true := by
  show (cd_208_0 ++ (cd_208_1 ++ (cd_208_2 ++ (cd_208_3 ++ (cd_208_4))))).all (fun q => eokB tFL tML tCF tKC tKL tCL tOI tAC tSL tMX 12 (mm_208.1.name == "<init>") mm_208.2.1 q.1 q.2) = true
  simp only [List.all_append, mk_208_0, mk_208_1, mk_208_2, mk_208_3, mk_208_4, Bool.and_self]
theorem mo_208 : mok lw_good gP mm_208 := mokB_ok tabs_ok (oc := 12) (by decide) (by decide) rfl mk_208
set_option maxRecDepth 100000 in
theorem mk_209 : mokB tFL tML tCF tKC tKL tCL tOI tAC tSL tMX 12 mm_209 = true := by decide +kernel
theorem mo_209 : mok lw_good gP mm_209 := mokB_ok tabs_ok (oc := 12) (by decide) (by decide) rfl mk_209
set_option maxRecDepth 100000 in
theorem mk_210 : mokB tFL tML tCF tKC tKL tCL tOI tAC tSL tMX 12 mm_210 = true := by decide +kernel
theorem mo_210 : mok lw_good gP mm_210 := mokB_ok tabs_ok (oc := 12) (by decide) (by decide) rfl mk_210
set_option maxRecDepth 100000 in
theorem mk_211 : mokB tFL tML tCF tKC tKL tCL tOI tAC tSL tMX 12 mm_211 = true := by decide +kernel
theorem mo_211 : mok lw_good gP mm_211 := mokB_ok tabs_ok (oc := 12) (by decide) (by decide) rfl mk_211
set_option maxRecDepth 100000 in
theorem mk_212 : mokB tFL tML tCF tKC tKL tCL tOI tAC tSL tMX 12 mm_212 = true := by decide +kernel
theorem mo_212 : mok lw_good gP mm_212 := mokB_ok tabs_ok (oc := 12) (by decide) (by decide) rfl mk_212
set_option maxRecDepth 100000 in
theorem mk_213 : mokB tFL tML tCF tKC tKL tCL tOI tAC tSL tMX 12 mm_213 = true := by decide +kernel
theorem mo_213 : mok lw_good gP mm_213 := mokB_ok tabs_ok (oc := 12) (by decide) (by decide) rfl mk_213
set_option maxRecDepth 100000 in
theorem mk_214 : mokB tFL tML tCF tKC tKL tCL tOI tAC tSL tMX 12 mm_214 = true := by decide +kernel
theorem mo_214 : mok lw_good gP mm_214 := mokB_ok tabs_ok (oc := 12) (by decide) (by decide) rfl mk_214
set_option maxRecDepth 100000 in
theorem mk_215 : mokB tFL tML tCF tKC tKL tCL tOI tAC tSL tMX 12 mm_215 = true := by decide +kernel
theorem mo_215 : mok lw_good gP mm_215 := mokB_ok tabs_ok (oc := 12) (by decide) (by decide) rfl mk_215
set_option maxRecDepth 100000 in
theorem mk_216 : mokB tFL tML tCF tKC tKL tCL tOI tAC tSL tMX 12 mm_216 = true := by decide +kernel
theorem mo_216 : mok lw_good gP mm_216 := mokB_ok tabs_ok (oc := 12) (by decide) (by decide) rfl mk_216
set_option maxRecDepth 100000 in
theorem mk_217 : mokB tFL tML tCF tKC tKL tCL tOI tAC tSL tMX 12 mm_217 = true := by decide +kernel
theorem mo_217 : mok lw_good gP mm_217 := mokB_ok tabs_ok (oc := 12) (by decide) (by decide) rfl mk_217
set_option maxRecDepth 100000 in
theorem mk_218 : mokB tFL tML tCF tKC tKL tCL tOI tAC tSL tMX 12 mm_218 = true := by decide +kernel
theorem mo_218 : mok lw_good gP mm_218 := mokB_ok tabs_ok (oc := 12) (by decide) (by decide) rfl mk_218
set_option maxRecDepth 100000 in
theorem mk_219 : mokB tFL tML tCF tKC tKL tCL tOI tAC tSL tMX 12 mm_219 = true := by decide +kernel
theorem mo_219 : mok lw_good gP mm_219 := mokB_ok tabs_ok (oc := 12) (by decide) (by decide) rfl mk_219
set_option maxRecDepth 100000 in
theorem mk_220 : mokB tFL tML tCF tKC tKL tCL tOI tAC tSL tMX 12 mm_220 = true := by decide +kernel
theorem mo_220 : mok lw_good gP mm_220 := mokB_ok tabs_ok (oc := 12) (by decide) (by decide) rfl mk_220
set_option maxRecDepth 100000 in
theorem mk_221 : mokB tFL tML tCF tKC tKL tCL tOI tAC tSL tMX 12 mm_221 = true := by decide +kernel
theorem mo_221 : mok lw_good gP mm_221 := mokB_ok tabs_ok (oc := 12) (by decide) (by decide) rfl mk_221
set_option maxRecDepth 100000 in
theorem mk_222 : mokB tFL tML tCF tKC tKL tCL tOI tAC tSL tMX 12 mm_222 = true := by decide +kernel
theorem mo_222 : mok lw_good gP mm_222 := mokB_ok tabs_ok (oc := 12) (by decide) (by decide) rfl mk_222
set_option maxRecDepth 100000 in
theorem mk_223 : mokB tFL tML tCF tKC tKL tCL tOI tAC tSL tMX 12 mm_223 = true := by decide +kernel
theorem mo_223 : mok lw_good gP mm_223 := mokB_ok tabs_ok (oc := 12) (by decide) (by decide) rfl mk_223
set_option maxRecDepth 100000 in
theorem mk_224 : mokB tFL tML tCF tKC tKL tCL tOI tAC tSL tMX 12 mm_224 = true := by decide +kernel
theorem mo_224 : mok lw_good gP mm_224 := mokB_ok tabs_ok (oc := 12) (by decide) (by decide) rfl mk_224
set_option maxRecDepth 100000 in
theorem mk_225 : mokB tFL tML tCF tKC tKL tCL tOI tAC tSL tMX 12 mm_225 = true := by decide +kernel
theorem mo_225 : mok lw_good gP mm_225 := mokB_ok tabs_ok (oc := 12) (by decide) (by decide) rfl mk_225
set_option maxRecDepth 100000 in
theorem mk_226 : mokB tFL tML tCF tKC tKL tCL tOI tAC tSL tMX 12 mm_226 = true := by decide +kernel
theorem mo_226 : mok lw_good gP mm_226 := mokB_ok tabs_ok (oc := 12) (by decide) (by decide) rfl mk_226
set_option maxRecDepth 100000 in
theorem mk_227 : mokB tFL tML tCF tKC tKL tCL tOI tAC tSL tMX 12 mm_227 = true := by decide +kernel
theorem mo_227 : mok lw_good gP mm_227 := mokB_ok tabs_ok (oc := 12) (by decide) (by decide) rfl mk_227
set_option maxRecDepth 100000 in
theorem mk_228 : mokB tFL tML tCF tKC tKL tCL tOI tAC tSL tMX 12 mm_228 = true := by decide +kernel
theorem mo_228 : mok lw_good gP mm_228 := mokB_ok tabs_ok (oc := 12) (by decide) (by decide) rfl mk_228
set_option maxRecDepth 100000 in
theorem mk_229 : mokB tFL tML tCF tKC tKL tCL tOI tAC tSL tMX 12 mm_229 = true := by decide +kernel
theorem mo_229 : mok lw_good gP mm_229 := mokB_ok tabs_ok (oc := 12) (by decide) (by decide) rfl mk_229
set_option maxRecDepth 100000 in
theorem mk_230 : mokB tFL tML tCF tKC tKL tCL tOI tAC tSL tMX 12 mm_230 = true := by decide +kernel
theorem mo_230 : mok lw_good gP mm_230 := mokB_ok tabs_ok (oc := 12) (by decide) (by decide) rfl mk_230
set_option maxRecDepth 100000 in
theorem mk_231 : mokB tFL tML tCF tKC tKL tCL tOI tAC tSL tMX 12 mm_231 = true := by decide +kernel
theorem mo_231 : mok lw_good gP mm_231 := mokB_ok tabs_ok (oc := 12) (by decide) (by decide) rfl mk_231
