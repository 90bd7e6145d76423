set_option maxRecDepth 100000 in
theorem ce_151 : ab_ce cd_142 151 = true := by decide +kernel
set_option maxRecDepth 100000 in
theorem cl_151_0 : (((ab_c cd_142).drop 0).take 1).all (ab_cc cd_142 151) = true := by decide +kernel
set_option maxRecDepth 100000 in
theorem cl_151_1 : (((ab_c cd_142).drop 1).take 1).all (ab_cc cd_142 151) = true := by decide +kernel
set_option maxRecDepth 100000 in
theorem cl_151_2 : (((ab_c cd_142).drop 2).take 1).all (ab_cc cd_142 151) = true := by decide +kernel
set_option maxRecDepth 100000 in
theorem cl_151_3 : (((ab_c cd_142).drop 3).take 1).all (ab_cc cd_142 151) = true := by decide +kernel
set_option maxRecDepth 100000 in
theorem cl_151_4 : (((ab_c cd_142).drop 4).take 1).all (ab_cc cd_142 151) = true := by decide +kernel
set_option maxRecDepth 100000 in
theorem cl_151_5 : (((ab_c cd_142).drop 5).take 1).all (ab_cc cd_142 151) = true := by decide +kernel
set_option maxRecDepth 100000 in
theorem cl_151_6 : (((ab_c cd_142).drop 6).take 1).all (ab_cc cd_142 151) = true := by decide +kernel
set_option maxRecDepth 100000 in
theorem cl_151_7 : (((ab_c cd_142).drop 7).take 1).all (ab_cc cd_142 151) = true := by decide +kernel
set_option maxRecDepth 100000 in
theorem cl_151_8 : (((ab_c cd_142).drop 8).take 1).all (ab_cc cd_142 151) = true := by decide +kernel
set_option maxRecDepth 100000 in
theorem cl_151_9 : (((ab_c cd_142).drop 9).take 1).all (ab_cc cd_142 151) = true := by decide +kernel
set_option maxRecDepth 100000 in
theorem cl_151_10 : (((ab_c cd_142).drop 10).take 1).all (ab_cc cd_142 151) = true := by decide +kernel
set_option maxRecDepth 100000 in
theorem cl_151_11 : (((ab_c cd_142).drop 11).take 1).all (ab_cc cd_142 151) = true := by decide +kernel
set_option maxRecDepth 100000 in
theorem cl_151_12 : (((ab_c cd_142).drop 12).take 1).all (ab_cc cd_142 151) = true := by decide +kernel
set_option maxRecDepth 100000 in
theorem cl_151_13 : (((ab_c cd_142).drop 13).take 1).all (ab_cc cd_142 151) = true := by decide +kernel
set_option maxRecDepth 100000 in
theorem cl_151_14 : (((ab_c cd_142).drop 14).take 1).all (ab_cc cd_142 151) = true := by decide +kernel
set_option maxRecDepth 100000 in
theorem cl_151_15 : (((ab_c cd_142).drop 15).take 1).all (ab_cc cd_142 151) = true := by decide +kernel
set_option maxRecDepth 100000 in
theorem cl_151_16 : (((ab_c cd_142).drop 16).take 1).all (ab_cc cd_142 151) = true := by decide +kernel
set_option maxRecDepth 100000 in
theorem cl_151_17 : (((ab_c cd_142).drop 17).take 1).all (ab_cc cd_142 151) = true := by decide +kernel
set_option maxRecDepth 100000 in
theorem cl_151_18 : (((ab_c cd_142).drop 18).take 1).all (ab_cc cd_142 151) = true := by decide +kernel
set_option maxRecDepth 100000 in
theorem cl_151_19 : (((ab_c cd_142).drop 19).take 1).all (ab_cc cd_142 151) = true := by decide +kernel
set_option maxRecDepth 100000 in
theorem cl_151_20 : (((ab_c cd_142).drop 20).take 1).all (ab_cc cd_142 151) = true := by decide +kernel
set_option maxRecDepth 100000 in
theorem cl_151_21 : (((ab_c cd_142).drop 21).take 1).all (ab_cc cd_142 151) = true := by decide +kernel
set_option maxRecDepth 100000 in
theorem cl_151_22 : (((ab_c cd_142).drop 22).take 1).all (ab_cc cd_142 151) = true := by decide +kernel
set_option maxRecDepth 100000 in
theorem cl_151_23 : (((ab_c cd_142).drop 23).take 1).all (ab_cc cd_142 151) = true := by decide +kernel
set_option maxRecDepth 100000 in
theorem cl_151_24 : (((ab_c cd_142).drop 24).take 1).all (ab_cc cd_142 151) = true := by decide +kernel
set_option maxRecDepth 100000 in
theorem cl_151_25 : (((ab_c cd_142).drop 25).take 1).all (ab_cc cd_142 151) = true := by decide +kernel
set_option maxRecDepth 100000 in
theorem kd_151 : ab_ckd cd_142 151 := ⟨by decide +kernel, ce_151, ab_all1 (n := 26) (by decide +kernel) (fun j hj => match j, hj with
  | 0, _ => cl_151_0
  | 1, _ => cl_151_1
  | 2, _ => cl_151_2
  | 3, _ => cl_151_3
  | 4, _ => cl_151_4
  | 5, _ => cl_151_5
  | 6, _ => cl_151_6
  | 7, _ => cl_151_7
  | 8, _ => cl_151_8
  | 9, _ => cl_151_9
  | 10, _ => cl_151_10
  | 11, _ => cl_151_11
  | 12, _ => cl_151_12
  | 13, _ => cl_151_13
  | 14, _ => cl_151_14
  | 15, _ => cl_151_15
  | 16, _ => cl_151_16
  | 17, _ => cl_151_17
  | 18, _ => cl_151_18
  | 19, _ => cl_151_19
  | 20, _ => cl_151_20
  | 21, _ => cl_151_21
  | 22, _ => cl_151_22
  | 23, _ => cl_151_23
  | 24, _ => cl_151_24
  | 25, _ => cl_151_25
  | n + 26, h => absurd h (by omega))⟩
set_option maxRecDepth 100000 in
theorem ce_152 : ab_ce cd_143 152 = true := by decide +kernel
set_option maxRecDepth 100000 in
theorem kd_152 : ab_ckd cd_143 152 := ⟨by decide +kernel, ce_152, fun b hb => by cases hb⟩
set_option maxRecDepth 100000 in
theorem ce_153 : ab_ce cd_144 153 = true := by decide +kernel
set_option maxRecDepth 100000 in
theorem cl_153 : (ab_c cd_144).all (ab_cc cd_144 153) = true := by decide +kernel
set_option maxRecDepth 100000 in
theorem kd_153 : ab_ckd cd_144 153 := ⟨by decide +kernel, ce_153, fun b hb => List.all_eq_true.mp cl_153 b hb⟩
set_option maxRecDepth 100000 in
theorem ce_154 : ab_ce cd_145 154 = true := by decide +kernel
set_option maxRecDepth 100000 in
theorem kd_154 : ab_ckd cd_145 154 := ⟨by decide +kernel, ce_154, fun b hb => by cases hb⟩
set_option maxRecDepth 100000 in
theorem ce_155 : ab_ce cd_146 155 = true := by decide +kernel
set_option maxRecDepth 100000 in
theorem kd_155 : ab_ckd cd_146 155 := ⟨by decide +kernel, ce_155, fun b hb => by cases hb⟩
set_option maxRecDepth 100000 in
theorem ce_156 : ab_ce cd_147 156 = true := by decide +kernel
set_option maxRecDepth 100000 in
theorem kd_156 : ab_ckd cd_147 156 := ⟨by decide +kernel, ce_156, fun b hb => by cases hb⟩
set_option maxRecDepth 100000 in
theorem ce_157 : ab_ce cd_148 157 = true := by decide +kernel
set_option maxRecDepth 100000 in
theorem cl_157 : (ab_c cd_148).all (ab_cc cd_148 157) = true := by decide +kernel
set_option maxRecDepth 100000 in
theorem kd_157 : ab_ckd cd_148 157 := ⟨by decide +kernel, ce_157, fun b hb => List.all_eq_true.mp cl_157 b hb⟩
set_option maxRecDepth 100000 in
theorem ce_158 : ab_ce cd_149 158 = true := by decide +kernel
set_option maxRecDepth 100000 in
theorem kd_158 : ab_ckd cd_149 158 := ⟨by decide +kernel, ce_158, fun b hb => by cases hb⟩
set_option maxRecDepth 100000 in
theorem ce_159 : ab_ce cd_150 159 = true := by decide +kernel
set_option maxRecDepth 100000 in
theorem cl_159 : (ab_c cd_150).all (ab_cc cd_150 159) = true := by decide +kernel
set_option maxRecDepth 100000 in
theorem kd_159 : ab_ckd cd_150 159 := ⟨by decide +kernel, ce_159, fun b hb => List.all_eq_true.mp cl_159 b hb⟩
set_option maxRecDepth 100000 in
theorem ce_160 : ab_ce cd_151 160 = true := by decide +kernel
set_option maxRecDepth 100000 in
theorem kd_160 : ab_ckd cd_151 160 := ⟨by decide +kernel, ce_160, fun b hb => by cases hb⟩
set_option maxRecDepth 100000 in
theorem ce_161 : ab_ce cd_152 161 = true := by decide +kernel
set_option maxRecDepth 100000 in
theorem kd_161 : ab_ckd cd_152 161 := ⟨by decide +kernel, ce_161, fun b hb => by cases hb⟩
set_option maxRecDepth 100000 in
theorem ce_162 : ab_ce cd_153 162 = true := by decide +kernel
set_option maxRecDepth 100000 in
theorem kd_162 : ab_ckd cd_153 162 := ⟨by decide +kernel, ce_162, fun b hb => by cases hb⟩
set_option maxRecDepth 100000 in
theorem ce_163 : ab_ce cd_154 163 = true := by decide +kernel
set_option maxRecDepth 100000 in
theorem cl_163 : (ab_c cd_154).all (ab_cc cd_154 163) = true := by decide +kernel
set_option maxRecDepth 100000 in
theorem kd_163 : ab_ckd cd_154 163 := ⟨by decide +kernel, ce_163, fun b hb => List.all_eq_true.mp cl_163 b hb⟩
