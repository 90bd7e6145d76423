set_option maxRecDepth 100000 in
theorem ce_114 : ab_ce cd_114 114 = true := by decide +kernel
set_option maxRecDepth 100000 in
theorem cl_114_0 : (((ab_c cd_114).drop 0).take 1).all (ab_cc cd_114 114) = true := by decide +kernel
set_option maxRecDepth 100000 in
theorem kd_114 : ab_ckd cd_114 114 := ⟨by decide +kernel, ce_114, ab_all1 (n := 1) (by decide +kernel) (fun j hj => match j, hj with
  | 0, _ => cl_114_0
  | n + 1, h => absurd h (by omega))⟩
set_option maxRecDepth 100000 in
theorem ce_115 : ab_ce cd_115 115 = true := by decide +kernel
set_option maxRecDepth 100000 in
theorem kd_115 : ab_ckd cd_115 115 := ⟨by decide +kernel, ce_115, fun b hb => by cases hb⟩
set_option maxRecDepth 100000 in
theorem ce_116 : ab_ce cd_116 116 = true := by decide +kernel
set_option maxRecDepth 100000 in
theorem kd_116 : ab_ckd cd_116 116 := ⟨by decide +kernel, ce_116, fun b hb => by cases hb⟩
set_option maxRecDepth 100000 in
theorem ce_117 : ab_ce cd_117 117 = true := by decide +kernel
set_option maxRecDepth 100000 in
theorem kd_117 : ab_ckd cd_117 117 := ⟨by decide +kernel, ce_117, fun b hb => by cases hb⟩
set_option maxRecDepth 100000 in
theorem ce_118 : ab_ce cd_118 118 = true := by decide +kernel
set_option maxRecDepth 100000 in
theorem cl_118 : (ab_c cd_118).all (ab_cc cd_118 118) = true := by decide +kernel
set_option maxRecDepth 100000 in
theorem kd_118 : ab_ckd cd_118 118 := ⟨by decide +kernel, ce_118, fun b hb => List.all_eq_true.mp cl_118 b hb⟩
set_option maxRecDepth 100000 in
theorem ce_119 : ab_ce cd_119 119 = true := by decide +kernel
set_option maxRecDepth 100000 in
theorem cl_119 : (ab_c cd_119).all (ab_cc cd_119 119) = true := by decide +kernel
set_option maxRecDepth 100000 in
theorem kd_119 : ab_ckd cd_119 119 := ⟨by decide +kernel, ce_119, fun b hb => List.all_eq_true.mp cl_119 b hb⟩
set_option maxRecDepth 100000 in
theorem ce_120 : ab_ce cd_120 120 = true := by decide +kernel
set_option maxRecDepth 100000 in
theorem kd_120 : ab_ckd cd_120 120 := ⟨by decide +kernel, ce_120, fun b hb => by cases hb⟩
set_option maxRecDepth 100000 in
theorem ce_121 : ab_ce cd_121 121 = true := by decide +kernel
set_option maxRecDepth 100000 in
theorem cl_121 : (ab_c cd_121).all (ab_cc cd_121 121) = true := by decide +kernel
set_option maxRecDepth 100000 in
theorem kd_121 : ab_ckd cd_121 121 := ⟨by decide +kernel, ce_121, fun b hb => List.all_eq_true.mp cl_121 b hb⟩
set_option maxRecDepth 100000 in
theorem ce_122 : ab_ce cd_122 122 = true := by decide +kernel
set_option maxRecDepth 100000 in
theorem cl_122 : (ab_c cd_122).all (ab_cc cd_122 122) = true := by decide +kernel
set_option maxRecDepth 100000 in
theorem kd_122 : ab_ckd cd_122 122 := ⟨by decide +kernel, ce_122, fun b hb => List.all_eq_true.mp cl_122 b hb⟩
set_option maxRecDepth 100000 in
theorem ce_123 : ab_ce cd_123 123 = true := by decide +kernel
set_option maxRecDepth 100000 in
theorem cl_123 : (ab_c cd_123).all (ab_cc cd_123 123) = true := by decide +kernel
set_option maxRecDepth 100000 in
theorem kd_123 : ab_ckd cd_123 123 := ⟨by decide +kernel, ce_123, fun b hb => List.all_eq_true.mp cl_123 b hb⟩
set_option maxRecDepth 100000 in
theorem ce_124 : ab_ce cd_124 124 = true := by decide +kernel
set_option maxRecDepth 100000 in
theorem cl_124 : (ab_c cd_124).all (ab_cc cd_124 124) = true := by decide +kernel
set_option maxRecDepth 100000 in
theorem kd_124 : ab_ckd cd_124 124 := ⟨by decide +kernel, ce_124, fun b hb => List.all_eq_true.mp cl_124 b hb⟩
set_option maxRecDepth 100000 in
theorem ce_125 : ab_ce cd_125 125 = true := by decide +kernel
set_option maxRecDepth 100000 in
theorem kd_125 : ab_ckd cd_125 125 := ⟨by decide +kernel, ce_125, fun b hb => by cases hb⟩
set_option maxRecDepth 100000 in
theorem ce_126 : ab_ce cd_126 126 = true := by decide +kernel
set_option maxRecDepth 100000 in
theorem kd_126 : ab_ckd cd_126 126 := ⟨by decide +kernel, ce_126, fun b hb => by cases hb⟩
set_option maxRecDepth 100000 in
theorem ce_127 : ab_ce cd_127 127 = true := by decide +kernel
set_option maxRecDepth 100000 in
theorem kd_127 : ab_ckd cd_127 127 := ⟨by decide +kernel, ce_127, fun b hb => by cases hb⟩
set_option maxRecDepth 100000 in
theorem ce_128 : ab_ce cd_128 128 = true := by decide +kernel
set_option maxRecDepth 100000 in
theorem kd_128 : ab_ckd cd_128 128 := ⟨by decide +kernel, ce_128, fun b hb => by cases hb⟩
set_option maxRecDepth 100000 in
theorem ce_129 : ab_ce cd_129 129 = true := by decide +kernel
set_option maxRecDepth 100000 in
theorem kd_129 : ab_ckd cd_129 129 := ⟨by decide +kernel, ce_129, fun b hb => by cases hb⟩
set_option maxRecDepth 100000 in
theorem ce_130 : ab_ce cd_130 130 = true := by decide +kernel
set_option maxRecDepth 100000 in
theorem kd_130 : ab_ckd cd_130 130 := ⟨by decide +kernel, ce_130, fun b hb => by cases hb⟩
set_option maxRecDepth 100000 in
theorem ce_131 : ab_ce cd_131 131 = true := by decide +kernel
set_option maxRecDepth 100000 in
theorem cl_131 : (ab_c cd_131).all (ab_cc cd_131 131) = true := by decide +kernel
set_option maxRecDepth 100000 in
theorem kd_131 : ab_ckd cd_131 131 := ⟨by decide +kernel, ce_131, fun b hb => List.all_eq_true.mp cl_131 b hb⟩
