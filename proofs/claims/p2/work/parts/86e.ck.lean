set_option maxRecDepth 100000 in
theorem ce_143 : ab_ce cd_143 143 = true := by decide +kernel
set_option maxRecDepth 100000 in
theorem cl_143_0 : (((ab_c cd_143).drop 0).take 1).all (ab_cc cd_143 143) = true := by decide +kernel
set_option maxRecDepth 100000 in
theorem cl_143_1 : (((ab_c cd_143).drop 1).take 1).all (ab_cc cd_143 143) = true := by decide +kernel
set_option maxRecDepth 100000 in
theorem cl_143_2 : (((ab_c cd_143).drop 2).take 1).all (ab_cc cd_143 143) = true := by decide +kernel
set_option maxRecDepth 100000 in
theorem cl_143_3 : (((ab_c cd_143).drop 3).take 1).all (ab_cc cd_143 143) = true := by decide +kernel
set_option maxRecDepth 100000 in
theorem cl_143_4 : (((ab_c cd_143).drop 4).take 1).all (ab_cc cd_143 143) = true := by decide +kernel
set_option maxRecDepth 100000 in
theorem cl_143_5 : (((ab_c cd_143).drop 5).take 1).all (ab_cc cd_143 143) = true := by decide +kernel
set_option maxRecDepth 100000 in
theorem cl_143_6 : (((ab_c cd_143).drop 6).take 1).all (ab_cc cd_143 143) = true := by decide +kernel
set_option maxRecDepth 100000 in
theorem cl_143_7 : (((ab_c cd_143).drop 7).take 1).all (ab_cc cd_143 143) = true := by decide +kernel
set_option maxRecDepth 100000 in
theorem cl_143_8 : (((ab_c cd_143).drop 8).take 1).all (ab_cc cd_143 143) = true := by decide +kernel
set_option maxRecDepth 100000 in
theorem cl_143_9 : (((ab_c cd_143).drop 9).take 1).all (ab_cc cd_143 143) = true := by decide +kernel
set_option maxRecDepth 100000 in
theorem cl_143_10 : (((ab_c cd_143).drop 10).take 1).all (ab_cc cd_143 143) = true := by decide +kernel
set_option maxRecDepth 100000 in
theorem cl_143_11 : (((ab_c cd_143).drop 11).take 1).all (ab_cc cd_143 143) = true := by decide +kernel
set_option maxRecDepth 100000 in
theorem cl_143_12 : (((ab_c cd_143).drop 12).take 1).all (ab_cc cd_143 143) = true := by decide +kernel
set_option maxRecDepth 100000 in
theorem cl_143_13 : (((ab_c cd_143).drop 13).take 1).all (ab_cc cd_143 143) = true := by decide +kernel
set_option maxRecDepth 100000 in
theorem cl_143_14 : (((ab_c cd_143).drop 14).take 1).all (ab_cc cd_143 143) = true := by decide +kernel
set_option maxRecDepth 100000 in
theorem cl_143_15 : (((ab_c cd_143).drop 15).take 1).all (ab_cc cd_143 143) = true := by decide +kernel
set_option maxRecDepth 100000 in
theorem cl_143_16 : (((ab_c cd_143).drop 16).take 1).all (ab_cc cd_143 143) = true := by decide +kernel
set_option maxRecDepth 100000 in
theorem cl_143_17 : (((ab_c cd_143).drop 17).take 1).all (ab_cc cd_143 143) = true := by decide +kernel
set_option maxRecDepth 100000 in
theorem cl_143_18 : (((ab_c cd_143).drop 18).take 1).all (ab_cc cd_143 143) = true := by decide +kernel
set_option maxRecDepth 100000 in
theorem cl_143_19 : (((ab_c cd_143).drop 19).take 1).all (ab_cc cd_143 143) = true := by decide +kernel
set_option maxRecDepth 100000 in
theorem cl_143_20 : (((ab_c cd_143).drop 20).take 1).all (ab_cc cd_143 143) = true := by decide +kernel
set_option maxRecDepth 100000 in
theorem cl_143_21 : (((ab_c cd_143).drop 21).take 1).all (ab_cc cd_143 143) = true := by decide +kernel
set_option maxRecDepth 100000 in
theorem cl_143_22 : (((ab_c cd_143).drop 22).take 1).all (ab_cc cd_143 143) = true := by decide +kernel
set_option maxRecDepth 100000 in
theorem cl_143_23 : (((ab_c cd_143).drop 23).take 1).all (ab_cc cd_143 143) = true := by decide +kernel
set_option maxRecDepth 100000 in
theorem cl_143_24 : (((ab_c cd_143).drop 24).take 1).all (ab_cc cd_143 143) = true := by decide +kernel
set_option maxRecDepth 100000 in
theorem cl_143_25 : (((ab_c cd_143).drop 25).take 1).all (ab_cc cd_143 143) = true := by decide +kernel
set_option maxRecDepth 100000 in
theorem kd_143 : ab_ckd cd_143 143 := ⟨by decide +kernel, ce_143, ab_all1 (n := 26) (by decide +kernel) (fun j hj => match j, hj with
  | 0, _ => cl_143_0
  | 1, _ => cl_143_1
  | 2, _ => cl_143_2
  | 3, _ => cl_143_3
  | 4, _ => cl_143_4
  | 5, _ => cl_143_5
  | 6, _ => cl_143_6
  | 7, _ => cl_143_7
  | 8, _ => cl_143_8
  | 9, _ => cl_143_9
  | 10, _ => cl_143_10
  | 11, _ => cl_143_11
  | 12, _ => cl_143_12
  | 13, _ => cl_143_13
  | 14, _ => cl_143_14
  | 15, _ => cl_143_15
  | 16, _ => cl_143_16
  | 17, _ => cl_143_17
  | 18, _ => cl_143_18
  | 19, _ => cl_143_19
  | 20, _ => cl_143_20
  | 21, _ => cl_143_21
  | 22, _ => cl_143_22
  | 23, _ => cl_143_23
  | 24, _ => cl_143_24
  | 25, _ => cl_143_25
  | n + 26, h => absurd h (by omega))⟩
set_option maxRecDepth 100000 in
theorem ce_144 : ab_ce cd_144 144 = true := by decide +kernel
set_option maxRecDepth 100000 in
theorem kd_144 : ab_ckd cd_144 144 := ⟨by decide +kernel, ce_144, fun b hb => by cases hb⟩
set_option maxRecDepth 100000 in
theorem ce_145 : ab_ce cd_145 145 = true := by decide +kernel
set_option maxRecDepth 100000 in
theorem cl_145 : (ab_c cd_145).all (ab_cc cd_145 145) = true := by decide +kernel
set_option maxRecDepth 100000 in
theorem kd_145 : ab_ckd cd_145 145 := ⟨by decide +kernel, ce_145, fun b hb => List.all_eq_true.mp cl_145 b hb⟩
set_option maxRecDepth 100000 in
theorem ce_146 : ab_ce cd_146 146 = true := by decide +kernel
set_option maxRecDepth 100000 in
theorem kd_146 : ab_ckd cd_146 146 := ⟨by decide +kernel, ce_146, fun b hb => by cases hb⟩
set_option maxRecDepth 100000 in
theorem ce_147 : ab_ce cd_147 147 = true := by decide +kernel
set_option maxRecDepth 100000 in
theorem kd_147 : ab_ckd cd_147 147 := ⟨by decide +kernel, ce_147, fun b hb => by cases hb⟩
set_option maxRecDepth 100000 in
theorem ce_148 : ab_ce cd_148 148 = true := by decide +kernel
set_option maxRecDepth 100000 in
theorem kd_148 : ab_ckd cd_148 148 := ⟨by decide +kernel, ce_148, fun b hb => by cases hb⟩
set_option maxRecDepth 100000 in
theorem ce_149 : ab_ce cd_149 149 = true := by decide +kernel
set_option maxRecDepth 100000 in
theorem cl_149 : (ab_c cd_149).all (ab_cc cd_149 149) = true := by decide +kernel
set_option maxRecDepth 100000 in
theorem kd_149 : ab_ckd cd_149 149 := ⟨by decide +kernel, ce_149, fun b hb => List.all_eq_true.mp cl_149 b hb⟩
set_option maxRecDepth 100000 in
theorem ce_150 : ab_ce cd_150 150 = true := by decide +kernel
set_option maxRecDepth 100000 in
theorem kd_150 : ab_ckd cd_150 150 := ⟨by decide +kernel, ce_150, fun b hb => by cases hb⟩
set_option maxRecDepth 100000 in
theorem ce_151 : ab_ce cd_151 151 = true := by decide +kernel
set_option maxRecDepth 100000 in
theorem cl_151 : (ab_c cd_151).all (ab_cc cd_151 151) = true := by decide +kernel
set_option maxRecDepth 100000 in
theorem kd_151 : ab_ckd cd_151 151 := ⟨by decide +kernel, ce_151, fun b hb => List.all_eq_true.mp cl_151 b hb⟩
set_option maxRecDepth 100000 in
theorem ce_152 : ab_ce cd_152 152 = true := by decide +kernel
set_option maxRecDepth 100000 in
theorem kd_152 : ab_ckd cd_152 152 := ⟨by decide +kernel, ce_152, fun b hb => by cases hb⟩
set_option maxRecDepth 100000 in
theorem ce_153 : ab_ce cd_153 153 = true := by decide +kernel
set_option maxRecDepth 100000 in
theorem kd_153 : ab_ckd cd_153 153 := ⟨by decide +kernel, ce_153, fun b hb => by cases hb⟩
set_option maxRecDepth 100000 in
theorem ce_154 : ab_ce cd_154 154 = true := by decide +kernel
set_option maxRecDepth 100000 in
theorem kd_154 : ab_ckd cd_154 154 := ⟨by decide +kernel, ce_154, fun b hb => by cases hb⟩
set_option maxRecDepth 100000 in
theorem ce_155 : ab_ce cd_155 155 = true := by decide +kernel
set_option maxRecDepth 100000 in
theorem cl_155 : (ab_c cd_155).all (ab_cc cd_155 155) = true := by decide +kernel
set_option maxRecDepth 100000 in
theorem kd_155 : ab_ckd cd_155 155 := ⟨by decide +kernel, ce_155, fun b hb => List.all_eq_true.mp cl_155 b hb⟩
