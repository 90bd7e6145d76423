set_option maxRecDepth 100000 in
theorem ce_122 : ab_ce cd_114 122 = true := by decide +kernel
set_option maxRecDepth 100000 in
theorem cl_122_0 : (((ab_c cd_114).drop 0).take 1).all (ab_cc cd_114 122) = true := by decide +kernel
set_option maxRecDepth 100000 in
theorem kd_122 : ab_ckd cd_114 122 := ⟨by decide +kernel, ce_122, ab_all1 (n := 1) (by decide +kernel) (fun j hj => match j, hj with
  | 0, _ => cl_122_0
  | n + 1, h => absurd h (by omega))⟩
set_option maxRecDepth 100000 in
theorem ce_123 : ab_ce cd_115 123 = true := by decide +kernel
set_option maxRecDepth 100000 in
theorem kd_123 : ab_ckd cd_115 123 := ⟨by decide +kernel, ce_123, fun b hb => by cases hb⟩
set_option maxRecDepth 100000 in
theorem ce_124 : ab_ce cd_116 124 = true := by decide +kernel
set_option maxRecDepth 100000 in
theorem kd_124 : ab_ckd cd_116 124 := ⟨by decide +kernel, ce_124, fun b hb => by cases hb⟩
set_option maxRecDepth 100000 in
theorem ce_125 : ab_ce cd_117 125 = true := by decide +kernel
set_option maxRecDepth 100000 in
theorem kd_125 : ab_ckd cd_117 125 := ⟨by decide +kernel, ce_125, fun b hb => by cases hb⟩
set_option maxRecDepth 100000 in
theorem ce_126 : ab_ce cd_118 126 = true := by decide +kernel
set_option maxRecDepth 100000 in
theorem cl_126 : (ab_c cd_118).all (ab_cc cd_118 126) = true := by decide +kernel
set_option maxRecDepth 100000 in
theorem kd_126 : ab_ckd cd_118 126 := ⟨by decide +kernel, ce_126, fun b hb => List.all_eq_true.mp cl_126 b hb⟩
set_option maxRecDepth 100000 in
theorem ce_127 : ab_ce cd_119 127 = true := by decide +kernel
set_option maxRecDepth 100000 in
theorem cl_127 : (ab_c cd_119).all (ab_cc cd_119 127) = true := by decide +kernel
set_option maxRecDepth 100000 in
theorem kd_127 : ab_ckd cd_119 127 := ⟨by decide +kernel, ce_127, fun b hb => List.all_eq_true.mp cl_127 b hb⟩
set_option maxRecDepth 100000 in
theorem ce_128 : ab_ce cd_120 128 = true := by decide +kernel
set_option maxRecDepth 100000 in
theorem kd_128 : ab_ckd cd_120 128 := ⟨by decide +kernel, ce_128, fun b hb => by cases hb⟩
set_option maxRecDepth 100000 in
theorem ce_129 : ab_ce cd_121 129 = true := by decide +kernel
set_option maxRecDepth 100000 in
theorem cl_129 : (ab_c cd_121).all (ab_cc cd_121 129) = true := by decide +kernel
set_option maxRecDepth 100000 in
theorem kd_129 : ab_ckd cd_121 129 := ⟨by decide +kernel, ce_129, fun b hb => List.all_eq_true.mp cl_129 b hb⟩
set_option maxRecDepth 100000 in
theorem ce_130 : ab_ce cd_122 130 = true := by decide +kernel
set_option maxRecDepth 100000 in
theorem cl_130 : (ab_c cd_122).all (ab_cc cd_122 130) = true := by decide +kernel
set_option maxRecDepth 100000 in
theorem kd_130 : ab_ckd cd_122 130 := ⟨by decide +kernel, ce_130, fun b hb => List.all_eq_true.mp cl_130 b hb⟩
set_option maxRecDepth 100000 in
theorem ce_131 : ab_ce cd_123 131 = true := by decide +kernel
set_option maxRecDepth 100000 in
theorem cl_131 : (ab_c cd_123).all (ab_cc cd_123 131) = true := by decide +kernel
set_option maxRecDepth 100000 in
theorem kd_131 : ab_ckd cd_123 131 := ⟨by decide +kernel, ce_131, fun b hb => List.all_eq_true.mp cl_131 b hb⟩
set_option maxRecDepth 100000 in
theorem ce_132 : ab_ce cd_124 132 = true := by decide +kernel
set_option maxRecDepth 100000 in
theorem cl_132 : (ab_c cd_124).all (ab_cc cd_124 132) = true := by decide +kernel
set_option maxRecDepth 100000 in
theorem kd_132 : ab_ckd cd_124 132 := ⟨by decide +kernel, ce_132, fun b hb => List.all_eq_true.mp cl_132 b hb⟩
set_option maxRecDepth 100000 in
theorem ce_133 : ab_ce cd_125 133 = true := by decide +kernel
set_option maxRecDepth 100000 in
theorem kd_133 : ab_ckd cd_125 133 := ⟨by decide +kernel, ce_133, fun b hb => by cases hb⟩
set_option maxRecDepth 100000 in
theorem ce_134 : ab_ce cd_126 134 = true := by decide +kernel
set_option maxRecDepth 100000 in
theorem kd_134 : ab_ckd cd_126 134 := ⟨by decide +kernel, ce_134, fun b hb => by cases hb⟩
set_option maxRecDepth 100000 in
theorem ce_135 : ab_ce cd_127 135 = true := by decide +kernel
set_option maxRecDepth 100000 in
theorem kd_135 : ab_ckd cd_127 135 := ⟨by decide +kernel, ce_135, fun b hb => by cases hb⟩
set_option maxRecDepth 100000 in
theorem ce_136 : ab_ce cd_128 136 = true := by decide +kernel
set_option maxRecDepth 100000 in
theorem kd_136 : ab_ckd cd_128 136 := ⟨by decide +kernel, ce_136, fun b hb => by cases hb⟩
set_option maxRecDepth 100000 in
theorem ce_137 : ab_ce cd_129 137 = true := by decide +kernel
set_option maxRecDepth 100000 in
theorem kd_137 : ab_ckd cd_129 137 := ⟨by decide +kernel, ce_137, fun b hb => by cases hb⟩
set_option maxRecDepth 100000 in
theorem ce_138 : ab_ce cd_130 138 = true := by decide +kernel
set_option maxRecDepth 100000 in
theorem kd_138 : ab_ckd cd_130 138 := ⟨by decide +kernel, ce_138, fun b hb => by cases hb⟩
set_option maxRecDepth 100000 in
theorem ce_139 : ab_ce cd_131 139 = true := by decide +kernel
set_option maxRecDepth 100000 in
theorem cl_139 : (ab_c cd_131).all (ab_cc cd_131 139) = true := by decide +kernel
set_option maxRecDepth 100000 in
theorem kd_139 : ab_ckd cd_131 139 := ⟨by decide +kernel, ce_139, fun b hb => List.all_eq_true.mp cl_139 b hb⟩
