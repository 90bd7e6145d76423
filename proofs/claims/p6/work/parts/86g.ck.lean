set_option maxRecDepth 100000 in
theorem ce_189 : ab_ce cd_189 189 = true := by decide +kernel
set_option maxRecDepth 100000 in
theorem cl_189 : (ab_c cd_189).all (ab_cc cd_189 189) = true := by decide +kernel
set_option maxRecDepth 100000 in
theorem kd_189 : ab_ckd cd_189 189 := ⟨by decide +kernel, ce_189, fun b hb => List.all_eq_true.mp cl_189 b hb⟩
set_option maxRecDepth 100000 in
theorem ce_190 : ab_ce cd_190 190 = true := by decide +kernel
set_option maxRecDepth 100000 in
theorem cl_190 : (ab_c cd_190).all (ab_cc cd_190 190) = true := by decide +kernel
set_option maxRecDepth 100000 in
theorem kd_190 : ab_ckd cd_190 190 := ⟨by decide +kernel, ce_190, fun b hb => List.all_eq_true.mp cl_190 b hb⟩
set_option maxRecDepth 100000 in
theorem ce_191 : ab_ce cd_191 191 = true := by decide +kernel
set_option maxRecDepth 100000 in
theorem cl_191 : (ab_c cd_191).all (ab_cc cd_191 191) = true := by decide +kernel
set_option maxRecDepth 100000 in
theorem kd_191 : ab_ckd cd_191 191 := ⟨by decide +kernel, ce_191, fun b hb => List.all_eq_true.mp cl_191 b hb⟩
set_option maxRecDepth 100000 in
theorem ce_192 : ab_ce cd_192 192 = true := by decide +kernel
set_option maxRecDepth 100000 in
theorem cl_192 : (ab_c cd_192).all (ab_cc cd_192 192) = true := by decide +kernel
set_option maxRecDepth 100000 in
theorem kd_192 : ab_ckd cd_192 192 := ⟨by decide +kernel, ce_192, fun b hb => List.all_eq_true.mp cl_192 b hb⟩
set_option maxRecDepth 100000 in
theorem ce_193 : ab_ce cd_193 193 = true := by decide +kernel
set_option maxRecDepth 100000 in
theorem kd_193 : ab_ckd cd_193 193 := ⟨by decide +kernel, ce_193, fun b hb => by cases hb⟩
set_option maxRecDepth 100000 in
theorem ce_194 : ab_ce cd_194 194 = true := by decide +kernel
set_option maxRecDepth 100000 in
theorem cl_194 : (ab_c cd_194).all (ab_cc cd_194 194) = true := by decide +kernel
set_option maxRecDepth 100000 in
theorem kd_194 : ab_ckd cd_194 194 := ⟨by decide +kernel, ce_194, fun b hb => List.all_eq_true.mp cl_194 b hb⟩
set_option maxRecDepth 100000 in
theorem ce_195 : ab_ce cd_195 195 = true := by decide +kernel
set_option maxRecDepth 100000 in
theorem cl_195 : (ab_c cd_195).all (ab_cc cd_195 195) = true := by decide +kernel
set_option maxRecDepth 100000 in
theorem kd_195 : ab_ckd cd_195 195 := ⟨by decide +kernel, ce_195, fun b hb => List.all_eq_true.mp cl_195 b hb⟩
set_option maxRecDepth 100000 in
theorem ce_196 : ab_ce cd_196 196 = true := by decide +kernel
set_option maxRecDepth 100000 in
theorem cl_196 : (ab_c cd_196).all (ab_cc cd_196 196) = true := by decide +kernel
set_option maxRecDepth 100000 in
theorem kd_196 : ab_ckd cd_196 196 := ⟨by decide +kernel, ce_196, fun b hb => List.all_eq_true.mp cl_196 b hb⟩
set_option maxRecDepth 100000 in
theorem ce_197 : ab_ce cd_197 197 = true := by decide +kernel
set_option maxRecDepth 100000 in
theorem kd_197 : ab_ckd cd_197 197 := ⟨by decide +kernel, ce_197, fun b hb => by cases hb⟩
set_option maxRecDepth 100000 in
theorem ce_198 : ab_ce cd_198 198 = true := by decide +kernel
set_option maxRecDepth 100000 in
theorem kd_198 : ab_ckd cd_198 198 := ⟨by decide +kernel, ce_198, fun b hb => by cases hb⟩
set_option maxRecDepth 100000 in
theorem ce_199 : ab_ce cd_199 199 = true := by decide +kernel
set_option maxRecDepth 100000 in
theorem cl_199 : (ab_c cd_199).all (ab_cc cd_199 199) = true := by decide +kernel
set_option maxRecDepth 100000 in
theorem kd_199 : ab_ckd cd_199 199 := ⟨by decide +kernel, ce_199, fun b hb => List.all_eq_true.mp cl_199 b hb⟩
set_option maxRecDepth 100000 in
theorem ce_200 : ab_ce cd_200 200 = true := by decide +kernel
set_option maxRecDepth 100000 in
theorem cl_200 : (ab_c cd_200).all (ab_cc cd_200 200) = true := by decide +kernel
set_option maxRecDepth 100000 in
theorem kd_200 : ab_ckd cd_200 200 := ⟨by decide +kernel, ce_200, fun b hb => List.all_eq_true.mp cl_200 b hb⟩
set_option maxRecDepth 100000 in
theorem ce_201 : ab_ce cd_201 201 = true := by decide +kernel
set_option maxRecDepth 100000 in
theorem kd_201 : ab_ckd cd_201 201 := ⟨by decide +kernel, ce_201, fun b hb => by cases hb⟩
set_option maxRecDepth 100000 in
theorem ce_202 : ab_ce cd_202 202 = true := by decide +kernel
set_option maxRecDepth 100000 in
theorem cl_202 : (ab_c cd_202).all (ab_cc cd_202 202) = true := by decide +kernel
set_option maxRecDepth 100000 in
theorem kd_202 : ab_ckd cd_202 202 := ⟨by decide +kernel, ce_202, fun b hb => List.all_eq_true.mp cl_202 b hb⟩
set_option maxRecDepth 100000 in
theorem ce_203 : ab_ce cd_203 203 = true := by decide +kernel
set_option maxRecDepth 100000 in
theorem cl_203 : (ab_c cd_203).all (ab_cc cd_203 203) = true := by decide +kernel
set_option maxRecDepth 100000 in
theorem kd_203 : ab_ckd cd_203 203 := ⟨by decide +kernel, ce_203, fun b hb => List.all_eq_true.mp cl_203 b hb⟩
set_option maxRecDepth 100000 in
theorem ce_204 : ab_ce cd_204 204 = true := by decide +kernel
set_option maxRecDepth 100000 in
theorem kd_204 : ab_ckd cd_204 204 := ⟨by decide +kernel, ce_204, fun b hb => by cases hb⟩
set_option maxRecDepth 100000 in
theorem ce_205 : ab_ce cd_205 205 = true := by decide +kernel
set_option maxRecDepth 100000 in
theorem cl_205 : (ab_c cd_205).all (ab_cc cd_205 205) = true := by decide +kernel
set_option maxRecDepth 100000 in
theorem kd_205 : ab_ckd cd_205 205 := ⟨by decide +kernel, ce_205, fun b hb => List.all_eq_true.mp cl_205 b hb⟩
set_option maxRecDepth 100000 in
theorem ce_206 : ab_ce cd_206 206 = true := by decide +kernel
set_option maxRecDepth 100000 in
theorem cl_206 : (ab_c cd_206).all (ab_cc cd_206 206) = true := by decide +kernel
set_option maxRecDepth 100000 in
theorem kd_206 : ab_ckd cd_206 206 := ⟨by decide +kernel, ce_206, fun b hb => List.all_eq_true.mp cl_206 b hb⟩
set_option maxRecDepth 100000 in
theorem ce_207 : ab_ce cd_207 207 = true := by decide +kernel
set_option maxRecDepth 100000 in
theorem kd_207 : ab_ckd cd_207 207 := ⟨by decide +kernel, ce_207, fun b hb => by cases hb⟩
set_option maxRecDepth 100000 in
theorem ce_208 : ab_ce cd_208 208 = true := by decide +kernel
set_option maxRecDepth 100000 in
theorem cl_208 : (ab_c cd_208).all (ab_cc cd_208 208) = true := by decide +kernel
set_option maxRecDepth 100000 in
theorem kd_208 : ab_ckd cd_208 208 := ⟨by decide +kernel, ce_208, fun b hb => List.all_eq_true.mp cl_208 b hb⟩
set_option maxRecDepth 100000 in
theorem ce_209 : ab_ce cd_209 209 = true := by decide +kernel
set_option maxRecDepth 100000 in
theorem cl_209 : (ab_c cd_209).all (ab_cc cd_209 209) = true := by decide +kernel
set_option maxRecDepth 100000 in
theorem kd_209 : ab_ckd cd_209 209 := ⟨by decide +kernel, ce_209, fun b hb => List.all_eq_true.mp cl_209 b hb⟩
set_option maxRecDepth 100000 in
theorem ce_210 : ab_ce cd_210 210 = true := by decide +kernel
set_option maxRecDepth 100000 in
theorem kd_210 : ab_ckd cd_210 210 := ⟨by decide +kernel, ce_210, fun b hb => by cases hb⟩
set_option maxRecDepth 100000 in
theorem ce_211 : ab_ce cd_211 211 = true := by decide +kernel
set_option maxRecDepth 100000 in
theorem cl_211 : (ab_c cd_211).all (ab_cc cd_211 211) = true := by decide +kernel
set_option maxRecDepth 100000 in
theorem kd_211 : ab_ckd cd_211 211 := ⟨by decide +kernel, ce_211, fun b hb => List.all_eq_true.mp cl_211 b hb⟩
set_option maxRecDepth 100000 in
theorem ce_212 : ab_ce cd_212 212 = true := by decide +kernel
set_option maxRecDepth 100000 in
theorem cl_212 : (ab_c cd_212).all (ab_cc cd_212 212) = true := by decide +kernel
set_option maxRecDepth 100000 in
theorem kd_212 : ab_ckd cd_212 212 := ⟨by decide +kernel, ce_212, fun b hb => List.all_eq_true.mp cl_212 b hb⟩
set_option maxRecDepth 100000 in
theorem ce_213 : ab_ce cd_213 213 = true := by decide +kernel
set_option maxRecDepth 100000 in
theorem kd_213 : ab_ckd cd_213 213 := ⟨by decide +kernel, ce_213, fun b hb => by cases hb⟩
