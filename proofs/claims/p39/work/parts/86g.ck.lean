set_option maxRecDepth 100000 in
theorem ce_198 : ab_ce cd_189 198 = true := by decide +kernel
set_option maxRecDepth 100000 in
theorem cl_198 : (ab_c cd_189).all (ab_cc cd_189 198) = true := by decide +kernel
set_option maxRecDepth 100000 in
theorem kd_198 : ab_ckd cd_189 198 := ⟨by decide +kernel, ce_198, fun b hb => List.all_eq_true.mp cl_198 b hb⟩
set_option maxRecDepth 100000 in
theorem ce_199 : ab_ce cd_190 199 = true := by decide +kernel
set_option maxRecDepth 100000 in
theorem cl_199 : (ab_c cd_190).all (ab_cc cd_190 199) = true := by decide +kernel
set_option maxRecDepth 100000 in
theorem kd_199 : ab_ckd cd_190 199 := ⟨by decide +kernel, ce_199, fun b hb => List.all_eq_true.mp cl_199 b hb⟩
set_option maxRecDepth 100000 in
theorem ce_200 : ab_ce cd_191 200 = true := by decide +kernel
set_option maxRecDepth 100000 in
theorem cl_200 : (ab_c cd_191).all (ab_cc cd_191 200) = true := by decide +kernel
set_option maxRecDepth 100000 in
theorem kd_200 : ab_ckd cd_191 200 := ⟨by decide +kernel, ce_200, fun b hb => List.all_eq_true.mp cl_200 b hb⟩
set_option maxRecDepth 100000 in
theorem ce_201 : ab_ce cd_192 201 = true := by decide +kernel
set_option maxRecDepth 100000 in
theorem cl_201 : (ab_c cd_192).all (ab_cc cd_192 201) = true := by decide +kernel
set_option maxRecDepth 100000 in
theorem kd_201 : ab_ckd cd_192 201 := ⟨by decide +kernel, ce_201, fun b hb => List.all_eq_true.mp cl_201 b hb⟩
set_option maxRecDepth 100000 in
theorem ce_202 : ab_ce cd_193 202 = true := by decide +kernel
set_option maxRecDepth 100000 in
theorem kd_202 : ab_ckd cd_193 202 := ⟨by decide +kernel, ce_202, fun b hb => by cases hb⟩
set_option maxRecDepth 100000 in
theorem ce_203 : ab_ce cd_194 203 = true := by decide +kernel
set_option maxRecDepth 100000 in
theorem cl_203 : (ab_c cd_194).all (ab_cc cd_194 203) = true := by decide +kernel
set_option maxRecDepth 100000 in
theorem kd_203 : ab_ckd cd_194 203 := ⟨by decide +kernel, ce_203, fun b hb => List.all_eq_true.mp cl_203 b hb⟩
set_option maxRecDepth 100000 in
theorem ce_204 : ab_ce cd_195 204 = true := by decide +kernel
set_option maxRecDepth 100000 in
theorem cl_204 : (ab_c cd_195).all (ab_cc cd_195 204) = true := by decide +kernel
set_option maxRecDepth 100000 in
theorem kd_204 : ab_ckd cd_195 204 := ⟨by decide +kernel, ce_204, fun b hb => List.all_eq_true.mp cl_204 b hb⟩
set_option maxRecDepth 100000 in
theorem ce_205 : ab_ce cd_196 205 = true := by decide +kernel
set_option maxRecDepth 100000 in
theorem cl_205 : (ab_c cd_196).all (ab_cc cd_196 205) = true := by decide +kernel
set_option maxRecDepth 100000 in
theorem kd_205 : ab_ckd cd_196 205 := ⟨by decide +kernel, ce_205, fun b hb => List.all_eq_true.mp cl_205 b hb⟩
set_option maxRecDepth 100000 in
theorem ce_206 : ab_ce cd_197 206 = true := by decide +kernel
set_option maxRecDepth 100000 in
theorem kd_206 : ab_ckd cd_197 206 := ⟨by decide +kernel, ce_206, fun b hb => by cases hb⟩
set_option maxRecDepth 100000 in
theorem ce_207 : ab_ce cd_198 207 = true := by decide +kernel
set_option maxRecDepth 100000 in
theorem kd_207 : ab_ckd cd_198 207 := ⟨by decide +kernel, ce_207, fun b hb => by cases hb⟩
set_option maxRecDepth 100000 in
theorem ce_208 : ab_ce cd_199 208 = true := by decide +kernel
set_option maxRecDepth 100000 in
theorem cl_208 : (ab_c cd_199).all (ab_cc cd_199 208) = true := by decide +kernel
set_option maxRecDepth 100000 in
theorem kd_208 : ab_ckd cd_199 208 := ⟨by decide +kernel, ce_208, fun b hb => List.all_eq_true.mp cl_208 b hb⟩
set_option maxRecDepth 100000 in
theorem ce_209 : ab_ce cd_200 209 = true := by decide +kernel
set_option maxRecDepth 100000 in
theorem cl_209 : (ab_c cd_200).all (ab_cc cd_200 209) = true := by decide +kernel
set_option maxRecDepth 100000 in
theorem kd_209 : ab_ckd cd_200 209 := ⟨by decide +kernel, ce_209, fun b hb => List.all_eq_true.mp cl_209 b hb⟩
set_option maxRecDepth 100000 in
theorem ce_210 : ab_ce cd_201 210 = true := by decide +kernel
set_option maxRecDepth 100000 in
theorem kd_210 : ab_ckd cd_201 210 := ⟨by decide +kernel, ce_210, fun b hb => by cases hb⟩
set_option maxRecDepth 100000 in
theorem ce_211 : ab_ce cd_202 211 = true := by decide +kernel
set_option maxRecDepth 100000 in
theorem cl_211 : (ab_c cd_202).all (ab_cc cd_202 211) = true := by decide +kernel
set_option maxRecDepth 100000 in
theorem kd_211 : ab_ckd cd_202 211 := ⟨by decide +kernel, ce_211, fun b hb => List.all_eq_true.mp cl_211 b hb⟩
set_option maxRecDepth 100000 in
theorem ce_212 : ab_ce cd_203 212 = true := by decide +kernel
set_option maxRecDepth 100000 in
theorem cl_212 : (ab_c cd_203).all (ab_cc cd_203 212) = true := by decide +kernel
set_option maxRecDepth 100000 in
theorem kd_212 : ab_ckd cd_203 212 := ⟨by decide +kernel, ce_212, fun b hb => List.all_eq_true.mp cl_212 b hb⟩
set_option maxRecDepth 100000 in
theorem ce_213 : ab_ce cd_204 213 = true := by decide +kernel
set_option maxRecDepth 100000 in
theorem kd_213 : ab_ckd cd_204 213 := ⟨by decide +kernel, ce_213, fun b hb => by cases hb⟩
set_option maxRecDepth 100000 in
theorem ce_214 : ab_ce cd_205 214 = true := by decide +kernel
set_option maxRecDepth 100000 in
theorem cl_214 : (ab_c cd_205).all (ab_cc cd_205 214) = true := by decide +kernel
set_option maxRecDepth 100000 in
theorem kd_214 : ab_ckd cd_205 214 := ⟨by decide +kernel, ce_214, fun b hb => List.all_eq_true.mp cl_214 b hb⟩
set_option maxRecDepth 100000 in
theorem ce_215 : ab_ce cd_206 215 = true := by decide +kernel
set_option maxRecDepth 100000 in
theorem cl_215 : (ab_c cd_206).all (ab_cc cd_206 215) = true := by decide +kernel
set_option maxRecDepth 100000 in
theorem kd_215 : ab_ckd cd_206 215 := ⟨by decide +kernel, ce_215, fun b hb => List.all_eq_true.mp cl_215 b hb⟩
set_option maxRecDepth 100000 in
theorem ce_216 : ab_ce cd_207 216 = true := by decide +kernel
set_option maxRecDepth 100000 in
theorem kd_216 : ab_ckd cd_207 216 := ⟨by decide +kernel, ce_216, fun b hb => by cases hb⟩
set_option maxRecDepth 100000 in
theorem ce_217 : ab_ce cd_208 217 = true := by decide +kernel
set_option maxRecDepth 100000 in
theorem cl_217 : (ab_c cd_208).all (ab_cc cd_208 217) = true := by decide +kernel
set_option maxRecDepth 100000 in
theorem kd_217 : ab_ckd cd_208 217 := ⟨by decide +kernel, ce_217, fun b hb => List.all_eq_true.mp cl_217 b hb⟩
set_option maxRecDepth 100000 in
theorem ce_218 : ab_ce cd_209 218 = true := by decide +kernel
set_option maxRecDepth 100000 in
theorem cl_218 : (ab_c cd_209).all (ab_cc cd_209 218) = true := by decide +kernel
set_option maxRecDepth 100000 in
theorem kd_218 : ab_ckd cd_209 218 := ⟨by decide +kernel, ce_218, fun b hb => List.all_eq_true.mp cl_218 b hb⟩
set_option maxRecDepth 100000 in
theorem ce_219 : ab_ce cd_210 219 = true := by decide +kernel
set_option maxRecDepth 100000 in
theorem kd_219 : ab_ckd cd_210 219 := ⟨by decide +kernel, ce_219, fun b hb => by cases hb⟩
set_option maxRecDepth 100000 in
theorem ce_220 : ab_ce cd_211 220 = true := by decide +kernel
set_option maxRecDepth 100000 in
theorem cl_220 : (ab_c cd_211).all (ab_cc cd_211 220) = true := by decide +kernel
set_option maxRecDepth 100000 in
theorem kd_220 : ab_ckd cd_211 220 := ⟨by decide +kernel, ce_220, fun b hb => List.all_eq_true.mp cl_220 b hb⟩
set_option maxRecDepth 100000 in
theorem ce_221 : ab_ce cd_212 221 = true := by decide +kernel
set_option maxRecDepth 100000 in
theorem cl_221 : (ab_c cd_212).all (ab_cc cd_212 221) = true := by decide +kernel
set_option maxRecDepth 100000 in
theorem kd_221 : ab_ckd cd_212 221 := ⟨by decide +kernel, ce_221, fun b hb => List.all_eq_true.mp cl_221 b hb⟩
set_option maxRecDepth 100000 in
theorem ce_222 : ab_ce cd_213 222 = true := by decide +kernel
set_option maxRecDepth 100000 in
theorem kd_222 : ab_ckd cd_213 222 := ⟨by decide +kernel, ce_222, fun b hb => by cases hb⟩
