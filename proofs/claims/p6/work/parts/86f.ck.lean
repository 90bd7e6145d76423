set_option maxRecDepth 100000 in
theorem ce_155 : ab_ce cd_155 155 = true := by decide +kernel
set_option maxRecDepth 100000 in
theorem cl_155 : (ab_c cd_155).all (ab_cc cd_155 155) = true := by decide +kernel
set_option maxRecDepth 100000 in
theorem kd_155 : ab_ckd cd_155 155 := ⟨by decide +kernel, ce_155, fun b hb => List.all_eq_true.mp cl_155 b hb⟩
set_option maxRecDepth 100000 in
theorem ce_156 : ab_ce cd_156 156 = true := by decide +kernel
set_option maxRecDepth 100000 in
theorem cl_156 : (ab_c cd_156).all (ab_cc cd_156 156) = true := by decide +kernel
set_option maxRecDepth 100000 in
theorem kd_156 : ab_ckd cd_156 156 := ⟨by decide +kernel, ce_156, fun b hb => List.all_eq_true.mp cl_156 b hb⟩
set_option maxRecDepth 100000 in
theorem ce_157 : ab_ce cd_157 157 = true := by decide +kernel
set_option maxRecDepth 100000 in
theorem cl_157 : (ab_c cd_157).all (ab_cc cd_157 157) = true := by decide +kernel
set_option maxRecDepth 100000 in
theorem kd_157 : ab_ckd cd_157 157 := ⟨by decide +kernel, ce_157, fun b hb => List.all_eq_true.mp cl_157 b hb⟩
set_option maxRecDepth 100000 in
theorem ce_158 : ab_ce cd_158 158 = true := by decide +kernel
set_option maxRecDepth 100000 in
theorem kd_158 : ab_ckd cd_158 158 := ⟨by decide +kernel, ce_158, fun b hb => by cases hb⟩
set_option maxRecDepth 100000 in
theorem ce_159 : ab_ce cd_159 159 = true := by decide +kernel
set_option maxRecDepth 100000 in
theorem kd_159 : ab_ckd cd_159 159 := ⟨by decide +kernel, ce_159, fun b hb => by cases hb⟩
set_option maxRecDepth 100000 in
theorem ce_160 : ab_ce cd_160 160 = true := by decide +kernel
set_option maxRecDepth 100000 in
theorem cl_160 : (ab_c cd_160).all (ab_cc cd_160 160) = true := by decide +kernel
set_option maxRecDepth 100000 in
theorem kd_160 : ab_ckd cd_160 160 := ⟨by decide +kernel, ce_160, fun b hb => List.all_eq_true.mp cl_160 b hb⟩
set_option maxRecDepth 100000 in
theorem ce_161 : ab_ce cd_161 161 = true := by decide +kernel
set_option maxRecDepth 100000 in
theorem cl_161 : (ab_c cd_161).all (ab_cc cd_161 161) = true := by decide +kernel
set_option maxRecDepth 100000 in
theorem kd_161 : ab_ckd cd_161 161 := ⟨by decide +kernel, ce_161, fun b hb => List.all_eq_true.mp cl_161 b hb⟩
set_option maxRecDepth 100000 in
theorem ce_162 : ab_ce cd_162 162 = true := by decide +kernel
set_option maxRecDepth 100000 in
theorem cl_162 : (ab_c cd_162).all (ab_cc cd_162 162) = true := by decide +kernel
set_option maxRecDepth 100000 in
theorem kd_162 : ab_ckd cd_162 162 := ⟨by decide +kernel, ce_162, fun b hb => List.all_eq_true.mp cl_162 b hb⟩
set_option maxRecDepth 100000 in
theorem ce_163 : ab_ce cd_163 163 = true := by decide +kernel
set_option maxRecDepth 100000 in
theorem kd_163 : ab_ckd cd_163 163 := ⟨by decide +kernel, ce_163, fun b hb => by cases hb⟩
set_option maxRecDepth 100000 in
theorem ce_164 : ab_ce cd_164 164 = true := by decide +kernel
set_option maxRecDepth 100000 in
theorem kd_164 : ab_ckd cd_164 164 := ⟨by decide +kernel, ce_164, fun b hb => by cases hb⟩
set_option maxRecDepth 100000 in
theorem ce_165 : ab_ce cd_165 165 = true := by decide +kernel
set_option maxRecDepth 100000 in
theorem cl_165 : (ab_c cd_165).all (ab_cc cd_165 165) = true := by decide +kernel
set_option maxRecDepth 100000 in
theorem kd_165 : ab_ckd cd_165 165 := ⟨by decide +kernel, ce_165, fun b hb => List.all_eq_true.mp cl_165 b hb⟩
set_option maxRecDepth 100000 in
theorem ce_166 : ab_ce cd_166 166 = true := by decide +kernel
set_option maxRecDepth 100000 in
theorem kd_166 : ab_ckd cd_166 166 := ⟨by decide +kernel, ce_166, fun b hb => by cases hb⟩
set_option maxRecDepth 100000 in
theorem ce_167 : ab_ce cd_167 167 = true := by decide +kernel
set_option maxRecDepth 100000 in
theorem cl_167 : (ab_c cd_167).all (ab_cc cd_167 167) = true := by decide +kernel
set_option maxRecDepth 100000 in
theorem kd_167 : ab_ckd cd_167 167 := ⟨by decide +kernel, ce_167, fun b hb => List.all_eq_true.mp cl_167 b hb⟩
set_option maxRecDepth 100000 in
theorem ce_168 : ab_ce cd_168 168 = true := by decide +kernel
set_option maxRecDepth 100000 in
theorem cl_168 : (ab_c cd_168).all (ab_cc cd_168 168) = true := by decide +kernel
set_option maxRecDepth 100000 in
theorem kd_168 : ab_ckd cd_168 168 := ⟨by decide +kernel, ce_168, fun b hb => List.all_eq_true.mp cl_168 b hb⟩
set_option maxRecDepth 100000 in
theorem ce_169 : ab_ce cd_169 169 = true := by decide +kernel
set_option maxRecDepth 100000 in
theorem cl_169 : (ab_c cd_169).all (ab_cc cd_169 169) = true := by decide +kernel
set_option maxRecDepth 100000 in
theorem kd_169 : ab_ckd cd_169 169 := ⟨by decide +kernel, ce_169, fun b hb => List.all_eq_true.mp cl_169 b hb⟩
set_option maxRecDepth 100000 in
theorem ce_170 : ab_ce cd_170 170 = true := by decide +kernel
set_option maxRecDepth 100000 in
theorem kd_170 : ab_ckd cd_170 170 := ⟨by decide +kernel, ce_170, fun b hb => by cases hb⟩
set_option maxRecDepth 100000 in
theorem ce_171 : ab_ce cd_171 171 = true := by decide +kernel
set_option maxRecDepth 100000 in
theorem cl_171 : (ab_c cd_171).all (ab_cc cd_171 171) = true := by decide +kernel
set_option maxRecDepth 100000 in
theorem kd_171 : ab_ckd cd_171 171 := ⟨by decide +kernel, ce_171, fun b hb => List.all_eq_true.mp cl_171 b hb⟩
set_option maxRecDepth 100000 in
theorem ce_172 : ab_ce cd_172 172 = true := by decide +kernel
set_option maxRecDepth 100000 in
theorem cl_172 : (ab_c cd_172).all (ab_cc cd_172 172) = true := by decide +kernel
set_option maxRecDepth 100000 in
theorem kd_172 : ab_ckd cd_172 172 := ⟨by decide +kernel, ce_172, fun b hb => List.all_eq_true.mp cl_172 b hb⟩
set_option maxRecDepth 100000 in
theorem ce_173 : ab_ce cd_173 173 = true := by decide +kernel
set_option maxRecDepth 100000 in
theorem cl_173 : (ab_c cd_173).all (ab_cc cd_173 173) = true := by decide +kernel
set_option maxRecDepth 100000 in
theorem kd_173 : ab_ckd cd_173 173 := ⟨by decide +kernel, ce_173, fun b hb => List.all_eq_true.mp cl_173 b hb⟩
set_option maxRecDepth 100000 in
theorem ce_174 : ab_ce cd_174 174 = true := by decide +kernel
set_option maxRecDepth 100000 in
theorem cl_174 : (ab_c cd_174).all (ab_cc cd_174 174) = true := by decide +kernel
set_option maxRecDepth 100000 in
theorem kd_174 : ab_ckd cd_174 174 := ⟨by decide +kernel, ce_174, fun b hb => List.all_eq_true.mp cl_174 b hb⟩
set_option maxRecDepth 100000 in
theorem ce_175 : ab_ce cd_175 175 = true := by decide +kernel
set_option maxRecDepth 100000 in
theorem cl_175 : (ab_c cd_175).all (ab_cc cd_175 175) = true := by decide +kernel
set_option maxRecDepth 100000 in
theorem kd_175 : ab_ckd cd_175 175 := ⟨by decide +kernel, ce_175, fun b hb => List.all_eq_true.mp cl_175 b hb⟩
set_option maxRecDepth 100000 in
theorem ce_176 : ab_ce cd_176 176 = true := by decide +kernel
set_option maxRecDepth 100000 in
theorem cl_176 : (ab_c cd_176).all (ab_cc cd_176 176) = true := by decide +kernel
set_option maxRecDepth 100000 in
theorem kd_176 : ab_ckd cd_176 176 := ⟨by decide +kernel, ce_176, fun b hb => List.all_eq_true.mp cl_176 b hb⟩
set_option maxRecDepth 100000 in
theorem ce_177 : ab_ce cd_177 177 = true := by decide +kernel
set_option maxRecDepth 100000 in
theorem kd_177 : ab_ckd cd_177 177 := ⟨by decide +kernel, ce_177, fun b hb => by cases hb⟩
set_option maxRecDepth 100000 in
theorem ce_178 : ab_ce cd_178 178 = true := by decide +kernel
set_option maxRecDepth 100000 in
theorem cl_178 : (ab_c cd_178).all (ab_cc cd_178 178) = true := by decide +kernel
set_option maxRecDepth 100000 in
theorem kd_178 : ab_ckd cd_178 178 := ⟨by decide +kernel, ce_178, fun b hb => List.all_eq_true.mp cl_178 b hb⟩
set_option maxRecDepth 100000 in
theorem ce_179 : ab_ce cd_179 179 = true := by decide +kernel
set_option maxRecDepth 100000 in
theorem cl_179 : (ab_c cd_179).all (ab_cc cd_179 179) = true := by decide +kernel
set_option maxRecDepth 100000 in
theorem kd_179 : ab_ckd cd_179 179 := ⟨by decide +kernel, ce_179, fun b hb => List.all_eq_true.mp cl_179 b hb⟩
set_option maxRecDepth 100000 in
theorem ce_180 : ab_ce cd_180 180 = true := by decide +kernel
set_option maxRecDepth 100000 in
theorem cl_180_0 : (((ab_c cd_180).drop 0).take 1).all (ab_cc cd_180 180) = true := by decide +kernel
set_option maxRecDepth 100000 in
theorem kd_180 : ab_ckd cd_180 180 := ⟨by decide +kernel, ce_180, ab_all1 (n := 1) (by decide +kernel) (fun j hj => match j, hj with
  | 0, _ => cl_180_0
  | n + 1, h => absurd h (by omega))⟩
set_option maxRecDepth 100000 in
theorem ce_181 : ab_ce cd_181 181 = true := by decide +kernel
set_option maxRecDepth 100000 in
theorem cl_181 : (ab_c cd_181).all (ab_cc cd_181 181) = true := by decide +kernel
set_option maxRecDepth 100000 in
theorem kd_181 : ab_ckd cd_181 181 := ⟨by decide +kernel, ce_181, fun b hb => List.all_eq_true.mp cl_181 b hb⟩
set_option maxRecDepth 100000 in
theorem ce_182 : ab_ce cd_182 182 = true := by decide +kernel
set_option maxRecDepth 100000 in
theorem cl_182 : (ab_c cd_182).all (ab_cc cd_182 182) = true := by decide +kernel
set_option maxRecDepth 100000 in
theorem kd_182 : ab_ckd cd_182 182 := ⟨by decide +kernel, ce_182, fun b hb => List.all_eq_true.mp cl_182 b hb⟩
set_option maxRecDepth 100000 in
theorem ce_183 : ab_ce cd_183 183 = true := by decide +kernel
set_option maxRecDepth 100000 in
theorem kd_183 : ab_ckd cd_183 183 := ⟨by decide +kernel, ce_183, fun b hb => by cases hb⟩
set_option maxRecDepth 100000 in
theorem ce_184 : ab_ce cd_184 184 = true := by decide +kernel
set_option maxRecDepth 100000 in
theorem kd_184 : ab_ckd cd_184 184 := ⟨by decide +kernel, ce_184, fun b hb => by cases hb⟩
set_option maxRecDepth 100000 in
theorem ce_185 : ab_ce cd_185 185 = true := by decide +kernel
set_option maxRecDepth 100000 in
theorem cl_185 : (ab_c cd_185).all (ab_cc cd_185 185) = true := by decide +kernel
set_option maxRecDepth 100000 in
theorem kd_185 : ab_ckd cd_185 185 := ⟨by decide +kernel, ce_185, fun b hb => List.all_eq_true.mp cl_185 b hb⟩
set_option maxRecDepth 100000 in
theorem ce_186 : ab_ce cd_186 186 = true := by decide +kernel
set_option maxRecDepth 100000 in
theorem cl_186 : (ab_c cd_186).all (ab_cc cd_186 186) = true := by decide +kernel
set_option maxRecDepth 100000 in
theorem kd_186 : ab_ckd cd_186 186 := ⟨by decide +kernel, ce_186, fun b hb => List.all_eq_true.mp cl_186 b hb⟩
set_option maxRecDepth 100000 in
theorem ce_187 : ab_ce cd_187 187 = true := by decide +kernel
set_option maxRecDepth 100000 in
theorem kd_187 : ab_ckd cd_187 187 := ⟨by decide +kernel, ce_187, fun b hb => by cases hb⟩
set_option maxRecDepth 100000 in
theorem ce_188 : ab_ce cd_188 188 = true := by decide +kernel
set_option maxRecDepth 100000 in
theorem cl_188 : (ab_c cd_188).all (ab_cc cd_188 188) = true := by decide +kernel
set_option maxRecDepth 100000 in
theorem kd_188 : ab_ckd cd_188 188 := ⟨by decide +kernel, ce_188, fun b hb => List.all_eq_true.mp cl_188 b hb⟩
