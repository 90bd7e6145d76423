set_option maxRecDepth 100000 in
theorem ce_142 : ab_ce cd_142 142 = true := by decide +kernel
set_option maxRecDepth 100000 in
theorem cl_142_0 : (((ab_c cd_142).drop 0).take 1).all (ab_cc cd_142 142) = true := by decide +kernel
set_option maxRecDepth 100000 in
theorem cl_142_1 : (((ab_c cd_142).drop 1).take 1).all (ab_cc cd_142 142) = true := by decide +kernel
set_option maxRecDepth 100000 in
theorem cl_142_2 : (((ab_c cd_142).drop 2).take 1).all (ab_cc cd_142 142) = true := by decide +kernel
set_option maxRecDepth 100000 in
theorem cl_142_3 : (((ab_c cd_142).drop 3).take 1).all (ab_cc cd_142 142) = true := by decide +kernel
set_option maxRecDepth 100000 in
theorem cl_142_4 : (((ab_c cd_142).drop 4).take 1).all (ab_cc cd_142 142) = true := by decide +kernel
set_option maxRecDepth 100000 in
theorem cl_142_5 : (((ab_c cd_142).drop 5).take 1).all (ab_cc cd_142 142) = true := by decide +kernel
set_option maxRecDepth 100000 in
theorem cl_142_6 : (((ab_c cd_142).drop 6).take 1).all (ab_cc cd_142 142) = true := by decide +kernel
set_option maxRecDepth 100000 in
theorem cl_142_7 : (((ab_c cd_142).drop 7).take 1).all (ab_cc cd_142 142) = true := by decide +kernel
set_option maxRecDepth 100000 in
theorem cl_142_8 : (((ab_c cd_142).drop 8).take 1).all (ab_cc cd_142 142) = true := by decide +kernel
set_option maxRecDepth 100000 in
theorem cl_142_9 : (((ab_c cd_142).drop 9).take 1).all (ab_cc cd_142 142) = true := by decide +kernel
set_option maxRecDepth 100000 in
theorem cl_142_10 : (((ab_c cd_142).drop 10).take 1).all (ab_cc cd_142 142) = true := by decide +kernel
set_option maxRecDepth 100000 in
theorem cl_142_11 : (((ab_c cd_142).drop 11).take 1).all (ab_cc cd_142 142) = true := by decide +kernel
set_option maxRecDepth 100000 in
theorem cl_142_12 : (((ab_c cd_142).drop 12).take 1).all (ab_cc cd_142 142) = true := by decide +kernel
set_option maxRecDepth 100000 in
theorem cl_142_13 : (((ab_c cd_142).drop 13).take 1).all (ab_cc cd_142 142) = true := by decide +kernel
set_option maxRecDepth 100000 in
theorem cl_142_14 : (((ab_c cd_142).drop 14).take 1).all (ab_cc cd_142 142) = true := by decide +kernel
set_option maxRecDepth 100000 in
theorem cl_142_15 : (((ab_c cd_142).drop 15).take 1).all (ab_cc cd_142 142) = true := by decide +kernel
set_option maxRecDepth 100000 in
theorem cl_142_16 : (((ab_c cd_142).drop 16).take 1).all (ab_cc cd_142 142) = true := by decide +kernel
set_option maxRecDepth 100000 in
theorem cl_142_17 : (((ab_c cd_142).drop 17).take 1).all (ab_cc cd_142 142) = true := by decide +kernel
set_option maxRecDepth 100000 in
theorem cl_142_18 : (((ab_c cd_142).drop 18).take 1).all (ab_cc cd_142 142) = true := by decide +kernel
set_option maxRecDepth 100000 in
theorem cl_142_19 : (((ab_c cd_142).drop 19).take 1).all (ab_cc cd_142 142) = true := by decide +kernel
set_option maxRecDepth 100000 in
theorem cl_142_20 : (((ab_c cd_142).drop 20).take 1).all (ab_cc cd_142 142) = true := by decide +kernel
set_option maxRecDepth 100000 in
theorem cl_142_21 : (((ab_c cd_142).drop 21).take 1).all (ab_cc cd_142 142) = true := by decide +kernel
set_option maxRecDepth 100000 in
theorem cl_142_22 : (((ab_c cd_142).drop 22).take 1).all (ab_cc cd_142 142) = true := by decide +kernel
set_option maxRecDepth 100000 in
theorem cl_142_23 : (((ab_c cd_142).drop 23).take 1).all (ab_cc cd_142 142) = true := by decide +kernel
set_option maxRecDepth 100000 in
theorem cl_142_24 : (((ab_c cd_142).drop 24).take 1).all (ab_cc cd_142 142) = true := by decide +kernel
set_option maxRecDepth 100000 in
theorem cl_142_25 : (((ab_c cd_142).drop 25).take 1).all (ab_cc cd_142 142) = true := by decide +kernel
set_option maxRecDepth 100000 in
theorem kd_142 : ab_ckd cd_142 142 := ⟨by decide +kernel, ce_142, ab_all1 (n := 26) (by decide +kernel) (fun j hj => match j, hj with
  | 0, _ => cl_142_0
  | 1, _ => cl_142_1
  | 2, _ => cl_142_2
  | 3, _ => cl_142_3
  | 4, _ => cl_142_4
  | 5, _ => cl_142_5
  | 6, _ => cl_142_6
  | 7, _ => cl_142_7
  | 8, _ => cl_142_8
  | 9, _ => cl_142_9
  | 10, _ => cl_142_10
  | 11, _ => cl_142_11
  | 12, _ => cl_142_12
  | 13, _ => cl_142_13
  | 14, _ => cl_142_14
  | 15, _ => cl_142_15
  | 16, _ => cl_142_16
  | 17, _ => cl_142_17
  | 18, _ => cl_142_18
  | 19, _ => cl_142_19
  | 20, _ => cl_142_20
  | 21, _ => cl_142_21
  | 22, _ => cl_142_22
  | 23, _ => cl_142_23
  | 24, _ => cl_142_24
  | 25, _ => cl_142_25
  | n + 26, h => absurd h (by omega))⟩
set_option maxRecDepth 100000 in
theorem ce_143 : ab_ce cd_143 143 = true := by decide +kernel
set_option maxRecDepth 100000 in
theorem kd_143 : ab_ckd cd_143 143 := ⟨by decide +kernel, ce_143, fun b hb => by cases hb⟩
set_option maxRecDepth 100000 in
theorem ce_144 : ab_ce cd_144 144 = true := by decide +kernel
set_option maxRecDepth 100000 in
theorem cl_144 : (ab_c cd_144).all (ab_cc cd_144 144) = true := by decide +kernel
set_option maxRecDepth 100000 in
theorem kd_144 : ab_ckd cd_144 144 := ⟨by decide +kernel, ce_144, fun b hb => List.all_eq_true.mp cl_144 b hb⟩
set_option maxRecDepth 100000 in
theorem ce_145 : ab_ce cd_145 145 = true := by decide +kernel
set_option maxRecDepth 100000 in
theorem kd_145 : ab_ckd cd_145 145 := ⟨by decide +kernel, ce_145, fun b hb => by cases hb⟩
set_option maxRecDepth 100000 in
theorem ce_146 : ab_ce cd_146 146 = true := by decide +kernel
set_option maxRecDepth 100000 in
theorem kd_146 : ab_ckd cd_146 146 := ⟨by decide +kernel, ce_146, fun b hb => by cases hb⟩
set_option maxRecDepth 100000 in
theorem ce_147 : ab_ce cd_147 147 = true := by decide +kernel
set_option maxRecDepth 100000 in
theorem kd_147 : ab_ckd cd_147 147 := ⟨by decide +kernel, ce_147, fun b hb => by cases hb⟩
set_option maxRecDepth 100000 in
theorem ce_148 : ab_ce cd_148 148 = true := by decide +kernel
set_option maxRecDepth 100000 in
theorem cl_148 : (ab_c cd_148).all (ab_cc cd_148 148) = true := by decide +kernel
set_option maxRecDepth 100000 in
theorem kd_148 : ab_ckd cd_148 148 := ⟨by decide +kernel, ce_148, fun b hb => List.all_eq_true.mp cl_148 b hb⟩
set_option maxRecDepth 100000 in
theorem ce_149 : ab_ce cd_149 149 = true := by decide +kernel
set_option maxRecDepth 100000 in
theorem kd_149 : ab_ckd cd_149 149 := ⟨by decide +kernel, ce_149, fun b hb => by cases hb⟩
set_option maxRecDepth 100000 in
theorem ce_150 : ab_ce cd_150 150 = true := by decide +kernel
set_option maxRecDepth 100000 in
theorem cl_150 : (ab_c cd_150).all (ab_cc cd_150 150) = true := by decide +kernel
set_option maxRecDepth 100000 in
theorem kd_150 : ab_ckd cd_150 150 := ⟨by decide +kernel, ce_150, fun b hb => List.all_eq_true.mp cl_150 b hb⟩
set_option maxRecDepth 100000 in
theorem ce_151 : ab_ce cd_151 151 = true := by decide +kernel
set_option maxRecDepth 100000 in
theorem kd_151 : ab_ckd cd_151 151 := ⟨by decide +kernel, ce_151, fun b hb => by cases hb⟩
set_option maxRecDepth 100000 in
theorem ce_152 : ab_ce cd_152 152 = true := by decide +kernel
set_option maxRecDepth 100000 in
theorem kd_152 : ab_ckd cd_152 152 := ⟨by decide +kernel, ce_152, fun b hb => by cases hb⟩
set_option maxRecDepth 100000 in
theorem ce_153 : ab_ce cd_153 153 = true := by decide +kernel
set_option maxRecDepth 100000 in
theorem kd_153 : ab_ckd cd_153 153 := ⟨by decide +kernel, ce_153, fun b hb => by cases hb⟩
set_option maxRecDepth 100000 in
theorem ce_154 : ab_ce cd_154 154 = true := by decide +kernel
set_option maxRecDepth 100000 in
theorem cl_154 : (ab_c cd_154).all (ab_cc cd_154 154) = true := by decide +kernel
set_option maxRecDepth 100000 in
theorem kd_154 : ab_ckd cd_154 154 := ⟨by decide +kernel, ce_154, fun b hb => List.all_eq_true.mp cl_154 b hb⟩
