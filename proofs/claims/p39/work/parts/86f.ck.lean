set_option maxRecDepth 100000 in
theorem ce_164 : ab_ce cd_155 164 = true := by decide +kernel
set_option maxRecDepth 100000 in
theorem cl_164 : (ab_c cd_155).all (ab_cc cd_155 164) = true := by decide +kernel
set_option maxRecDepth 100000 in
theorem kd_164 : ab_ckd cd_155 164 := ⟨by decide +kernel, ce_164, fun b hb => List.all_eq_true.mp cl_164 b hb⟩
set_option maxRecDepth 100000 in
theorem ce_165 : ab_ce cd_156 165 = true := by decide +kernel
set_option maxRecDepth 100000 in
theorem cl_165 : (ab_c cd_156).all (ab_cc cd_156 165) = true := by decide +kernel
set_option maxRecDepth 100000 in
theorem kd_165 : ab_ckd cd_156 165 := ⟨by decide +kernel, ce_165, fun b hb => List.all_eq_true.mp cl_165 b hb⟩
set_option maxRecDepth 100000 in
theorem ce_166 : ab_ce cd_157 166 = true := by decide +kernel
set_option maxRecDepth 100000 in
theorem cl_166 : (ab_c cd_157).all (ab_cc cd_157 166) = true := by decide +kernel
set_option maxRecDepth 100000 in
theorem kd_166 : ab_ckd cd_157 166 := ⟨by decide +kernel, ce_166, fun b hb => List.all_eq_true.mp cl_166 b hb⟩
set_option maxRecDepth 100000 in
theorem ce_167 : ab_ce cd_158 167 = true := by decide +kernel
set_option maxRecDepth 100000 in
theorem kd_167 : ab_ckd cd_158 167 := ⟨by decide +kernel, ce_167, fun b hb => by cases hb⟩
set_option maxRecDepth 100000 in
theorem ce_168 : ab_ce cd_159 168 = true := by decide +kernel
set_option maxRecDepth 100000 in
theorem kd_168 : ab_ckd cd_159 168 := ⟨by decide +kernel, ce_168, fun b hb => by cases hb⟩
set_option maxRecDepth 100000 in
theorem ce_169 : ab_ce cd_160 169 = true := by decide +kernel
set_option maxRecDepth 100000 in
theorem cl_169 : (ab_c cd_160).all (ab_cc cd_160 169) = true := by decide +kernel
set_option maxRecDepth 100000 in
theorem kd_169 : ab_ckd cd_160 169 := ⟨by decide +kernel, ce_169, fun b hb => List.all_eq_true.mp cl_169 b hb⟩
set_option maxRecDepth 100000 in
theorem ce_170 : ab_ce cd_161 170 = true := by decide +kernel
set_option maxRecDepth 100000 in
theorem cl_170 : (ab_c cd_161).all (ab_cc cd_161 170) = true := by decide +kernel
set_option maxRecDepth 100000 in
theorem kd_170 : ab_ckd cd_161 170 := ⟨by decide +kernel, ce_170, fun b hb => List.all_eq_true.mp cl_170 b hb⟩
set_option maxRecDepth 100000 in
theorem ce_171 : ab_ce cd_162 171 = true := by decide +kernel
set_option maxRecDepth 100000 in
theorem cl_171 : (ab_c cd_162).all (ab_cc cd_162 171) = true := by decide +kernel
set_option maxRecDepth 100000 in
theorem kd_171 : ab_ckd cd_162 171 := ⟨by decide +kernel, ce_171, fun b hb => List.all_eq_true.mp cl_171 b hb⟩
set_option maxRecDepth 100000 in
theorem ce_172 : ab_ce cd_163 172 = true := by decide +kernel
set_option maxRecDepth 100000 in
theorem kd_172 : ab_ckd cd_163 172 := ⟨by decide +kernel, ce_172, fun b hb => by cases hb⟩
set_option maxRecDepth 100000 in
theorem ce_173 : ab_ce cd_164 173 = true := by decide +kernel
set_option maxRecDepth 100000 in
theorem kd_173 : ab_ckd cd_164 173 := ⟨by decide +kernel, ce_173, fun b hb => by cases hb⟩
set_option maxRecDepth 100000 in
theorem ce_174 : ab_ce cd_165 174 = true := by decide +kernel
set_option maxRecDepth 100000 in
theorem cl_174 : (ab_c cd_165).all (ab_cc cd_165 174) = true := by decide +kernel
set_option maxRecDepth 100000 in
theorem kd_174 : ab_ckd cd_165 174 := ⟨by decide +kernel, ce_174, fun b hb => List.all_eq_true.mp cl_174 b hb⟩
set_option maxRecDepth 100000 in
theorem ce_175 : ab_ce cd_166 175 = true := by decide +kernel
set_option maxRecDepth 100000 in
theorem kd_175 : ab_ckd cd_166 175 := ⟨by decide +kernel, ce_175, fun b hb => by cases hb⟩
set_option maxRecDepth 100000 in
theorem ce_176 : ab_ce cd_167 176 = true := by decide +kernel
set_option maxRecDepth 100000 in
theorem cl_176 : (ab_c cd_167).all (ab_cc cd_167 176) = true := by decide +kernel
set_option maxRecDepth 100000 in
theorem kd_176 : ab_ckd cd_167 176 := ⟨by decide +kernel, ce_176, fun b hb => List.all_eq_true.mp cl_176 b hb⟩
set_option maxRecDepth 100000 in
theorem ce_177 : ab_ce cd_168 177 = true := by decide +kernel
set_option maxRecDepth 100000 in
theorem cl_177 : (ab_c cd_168).all (ab_cc cd_168 177) = true := by decide +kernel
set_option maxRecDepth 100000 in
theorem kd_177 : ab_ckd cd_168 177 := ⟨by decide +kernel, ce_177, fun b hb => List.all_eq_true.mp cl_177 b hb⟩
set_option maxRecDepth 100000 in
theorem ce_178 : ab_ce cd_169 178 = true := by decide +kernel
set_option maxRecDepth 100000 in
theorem cl_178 : (ab_c cd_169).all (ab_cc cd_169 178) = true := by decide +kernel
set_option maxRecDepth 100000 in
theorem kd_178 : ab_ckd cd_169 178 := ⟨by decide +kernel, ce_178, fun b hb => List.all_eq_true.mp cl_178 b hb⟩
set_option maxRecDepth 100000 in
theorem ce_179 : ab_ce cd_170 179 = true := by decide +kernel
set_option maxRecDepth 100000 in
theorem kd_179 : ab_ckd cd_170 179 := ⟨by decide +kernel, ce_179, fun b hb => by cases hb⟩
set_option maxRecDepth 100000 in
theorem ce_180 : ab_ce cd_171 180 = true := by decide +kernel
set_option maxRecDepth 100000 in
theorem cl_180 : (ab_c cd_171).all (ab_cc cd_171 180) = true := by decide +kernel
set_option maxRecDepth 100000 in
theorem kd_180 : ab_ckd cd_171 180 := ⟨by decide +kernel, ce_180, fun b hb => List.all_eq_true.mp cl_180 b hb⟩
set_option maxRecDepth 100000 in
theorem ce_181 : ab_ce cd_172 181 = true := by decide +kernel
set_option maxRecDepth 100000 in
theorem cl_181 : (ab_c cd_172).all (ab_cc cd_172 181) = true := by decide +kernel
set_option maxRecDepth 100000 in
theorem kd_181 : ab_ckd cd_172 181 := ⟨by decide +kernel, ce_181, fun b hb => List.all_eq_true.mp cl_181 b hb⟩
set_option maxRecDepth 100000 in
theorem ce_182 : ab_ce cd_173 182 = true := by decide +kernel
set_option maxRecDepth 100000 in
theorem cl_182 : (ab_c cd_173).all (ab_cc cd_173 182) = true := by decide +kernel
set_option maxRecDepth 100000 in
theorem kd_182 : ab_ckd cd_173 182 := ⟨by decide +kernel, ce_182, fun b hb => List.all_eq_true.mp cl_182 b hb⟩
set_option maxRecDepth 100000 in
theorem ce_183 : ab_ce cd_174 183 = true := by decide +kernel
set_option maxRecDepth 100000 in
theorem cl_183 : (ab_c cd_174).all (ab_cc cd_174 183) = true := by decide +kernel
set_option maxRecDepth 100000 in
theorem kd_183 : ab_ckd cd_174 183 := ⟨by decide +kernel, ce_183, fun b hb => List.all_eq_true.mp cl_183 b hb⟩
set_option maxRecDepth 100000 in
theorem ce_184 : ab_ce cd_175 184 = true := by decide +kernel
set_option maxRecDepth 100000 in
theorem cl_184 : (ab_c cd_175).all (ab_cc cd_175 184) = true := by decide +kernel
set_option maxRecDepth 100000 in
theorem kd_184 : ab_ckd cd_175 184 := ⟨by decide +kernel, ce_184, fun b hb => List.all_eq_true.mp cl_184 b hb⟩
set_option maxRecDepth 100000 in
theorem ce_185 : ab_ce cd_176 185 = true := by decide +kernel
set_option maxRecDepth 100000 in
theorem cl_185 : (ab_c cd_176).all (ab_cc cd_176 185) = true := by decide +kernel
set_option maxRecDepth 100000 in
theorem kd_185 : ab_ckd cd_176 185 := ⟨by decide +kernel, ce_185, fun b hb => List.all_eq_true.mp cl_185 b hb⟩
set_option maxRecDepth 100000 in
theorem ce_186 : ab_ce cd_177 186 = true := by decide +kernel
set_option maxRecDepth 100000 in
theorem kd_186 : ab_ckd cd_177 186 := ⟨by decide +kernel, ce_186, fun b hb => by cases hb⟩
set_option maxRecDepth 100000 in
theorem ce_187 : ab_ce cd_178 187 = true := by decide +kernel
set_option maxRecDepth 100000 in
theorem cl_187 : (ab_c cd_178).all (ab_cc cd_178 187) = true := by decide +kernel
set_option maxRecDepth 100000 in
theorem kd_187 : ab_ckd cd_178 187 := ⟨by decide +kernel, ce_187, fun b hb => List.all_eq_true.mp cl_187 b hb⟩
set_option maxRecDepth 100000 in
theorem ce_188 : ab_ce cd_179 188 = true := by decide +kernel
set_option maxRecDepth 100000 in
theorem cl_188 : (ab_c cd_179).all (ab_cc cd_179 188) = true := by decide +kernel
set_option maxRecDepth 100000 in
theorem kd_188 : ab_ckd cd_179 188 := ⟨by decide +kernel, ce_188, fun b hb => List.all_eq_true.mp cl_188 b hb⟩
set_option maxRecDepth 100000 in
theorem ce_189 : ab_ce cd_180 189 = true := by decide +kernel
set_option maxRecDepth 100000 in
theorem cl_189_0 : (((ab_c cd_180).drop 0).take 1).all (ab_cc cd_180 189) = true := by decide +kernel
set_option maxRecDepth 100000 in
theorem kd_189 : ab_ckd cd_180 189 := ⟨by decide +kernel, ce_189, ab_all1 (n := 1) (by decide +kernel) (fun j hj => match j, hj with
  | 0, _ => cl_189_0
  | n + 1, h => absurd h (by omega))⟩
set_option maxRecDepth 100000 in
theorem ce_190 : ab_ce cd_181 190 = true := by decide +kernel
set_option maxRecDepth 100000 in
theorem cl_190 : (ab_c cd_181).all (ab_cc cd_181 190) = true := by decide +kernel
set_option maxRecDepth 100000 in
theorem kd_190 : ab_ckd cd_181 190 := ⟨by decide +kernel, ce_190, fun b hb => List.all_eq_true.mp cl_190 b hb⟩
set_option maxRecDepth 100000 in
theorem ce_191 : ab_ce cd_182 191 = true := by decide +kernel
set_option maxRecDepth 100000 in
theorem cl_191 : (ab_c cd_182).all (ab_cc cd_182 191) = true := by decide +kernel
set_option maxRecDepth 100000 in
theorem kd_191 : ab_ckd cd_182 191 := ⟨by decide +kernel, ce_191, fun b hb => List.all_eq_true.mp cl_191 b hb⟩
set_option maxRecDepth 100000 in
theorem ce_192 : ab_ce cd_183 192 = true := by decide +kernel
set_option maxRecDepth 100000 in
theorem kd_192 : ab_ckd cd_183 192 := ⟨by decide +kernel, ce_192, fun b hb => by cases hb⟩
set_option maxRecDepth 100000 in
theorem ce_193 : ab_ce cd_184 193 = true := by decide +kernel
set_option maxRecDepth 100000 in
theorem kd_193 : ab_ckd cd_184 193 := ⟨by decide +kernel, ce_193, fun b hb => by cases hb⟩
set_option maxRecDepth 100000 in
theorem ce_194 : ab_ce cd_185 194 = true := by decide +kernel
set_option maxRecDepth 100000 in
theorem cl_194 : (ab_c cd_185).all (ab_cc cd_185 194) = true := by decide +kernel
set_option maxRecDepth 100000 in
theorem kd_194 : ab_ckd cd_185 194 := ⟨by decide +kernel, ce_194, fun b hb => List.all_eq_true.mp cl_194 b hb⟩
set_option maxRecDepth 100000 in
theorem ce_195 : ab_ce cd_186 195 = true := by decide +kernel
set_option maxRecDepth 100000 in
theorem cl_195 : (ab_c cd_186).all (ab_cc cd_186 195) = true := by decide +kernel
set_option maxRecDepth 100000 in
theorem kd_195 : ab_ckd cd_186 195 := ⟨by decide +kernel, ce_195, fun b hb => List.all_eq_true.mp cl_195 b hb⟩
set_option maxRecDepth 100000 in
theorem ce_196 : ab_ce cd_187 196 = true := by decide +kernel
set_option maxRecDepth 100000 in
theorem kd_196 : ab_ckd cd_187 196 := ⟨by decide +kernel, ce_196, fun b hb => by cases hb⟩
set_option maxRecDepth 100000 in
theorem ce_197 : ab_ce cd_188 197 = true := by decide +kernel
set_option maxRecDepth 100000 in
theorem cl_197 : (ab_c cd_188).all (ab_cc cd_188 197) = true := by decide +kernel
set_option maxRecDepth 100000 in
theorem kd_197 : ab_ckd cd_188 197 := ⟨by decide +kernel, ce_197, fun b hb => List.all_eq_true.mp cl_197 b hb⟩
