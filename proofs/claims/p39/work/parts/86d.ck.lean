set_option maxRecDepth 100000 in
theorem ce_140 : ab_ce cd_132 140 = true := by decide +kernel
set_option maxRecDepth 100000 in
theorem cl_140_0 : (((ab_c cd_132).drop 0).take 1).all (ab_cc cd_132 140) = true := by decide +kernel
set_option maxRecDepth 100000 in
theorem cl_140_1 : (((ab_c cd_132).drop 1).take 1).all (ab_cc cd_132 140) = true := by decide +kernel
set_option maxRecDepth 100000 in
theorem cl_140_2 : (((ab_c cd_132).drop 2).take 1).all (ab_cc cd_132 140) = true := by decide +kernel
set_option maxRecDepth 100000 in
theorem cl_140_3 : (((ab_c cd_132).drop 3).take 1).all (ab_cc cd_132 140) = true := by decide +kernel
set_option maxRecDepth 100000 in
theorem cl_140_4 : (((ab_c cd_132).drop 4).take 1).all (ab_cc cd_132 140) = true := by decide +kernel
set_option maxRecDepth 100000 in
theorem cl_140_5 : (((ab_c cd_132).drop 5).take 1).all (ab_cc cd_132 140) = true := by decide +kernel
set_option maxRecDepth 100000 in
theorem cl_140_6 : (((ab_c cd_132).drop 6).take 1).all (ab_cc cd_132 140) = true := by decide +kernel
set_option maxRecDepth 100000 in
theorem cl_140_7 : (((ab_c cd_132).drop 7).take 1).all (ab_cc cd_132 140) = true := by decide +kernel
set_option maxRecDepth 100000 in
theorem cl_140_8 : (((ab_c cd_132).drop 8).take 1).all (ab_cc cd_132 140) = true := by decide +kernel
set_option maxRecDepth 100000 in
theorem cl_140_9 : (((ab_c cd_132).drop 9).take 1).all (ab_cc cd_132 140) = true := by decide +kernel
set_option maxRecDepth 100000 in
theorem cl_140_10 : (((ab_c cd_132).drop 10).take 1).all (ab_cc cd_132 140) = true := by decide +kernel
set_option maxRecDepth 100000 in
theorem cl_140_11 : (((ab_c cd_132).drop 11).take 1).all (ab_cc cd_132 140) = true := by decide +kernel
set_option maxRecDepth 100000 in
theorem cl_140_12 : (((ab_c cd_132).drop 12).take 1).all (ab_cc cd_132 140) = true := by decide +kernel
set_option maxRecDepth 100000 in
theorem kd_140 : ab_ckd cd_132 140 := ⟨by decide +kernel, ce_140, ab_all1 (n := 13) (by decide +kernel) (fun j hj => match j, hj with
  | 0, _ => cl_140_0
  | 1, _ => cl_140_1
  | 2, _ => cl_140_2
  | 3, _ => cl_140_3
  | 4, _ => cl_140_4
  | 5, _ => cl_140_5
  | 6, _ => cl_140_6
  | 7, _ => cl_140_7
  | 8, _ => cl_140_8
  | 9, _ => cl_140_9
  | 10, _ => cl_140_10
  | 11, _ => cl_140_11
  | 12, _ => cl_140_12
  | n + 13, h => absurd h (by omega))⟩
set_option maxRecDepth 100000 in
theorem ce_141 : ab_ce cd_133 141 = true := by decide +kernel
set_option maxRecDepth 100000 in
theorem cl_141 : (ab_c cd_133).all (ab_cc cd_133 141) = true := by decide +kernel
set_option maxRecDepth 100000 in
theorem kd_141 : ab_ckd cd_133 141 := ⟨by decide +kernel, ce_141, fun b hb => List.all_eq_true.mp cl_141 b hb⟩
set_option maxRecDepth 100000 in
theorem ce_142 : ab_ce cd_134 142 = true := by decide +kernel
set_option maxRecDepth 100000 in
theorem cl_142 : (ab_c cd_134).all (ab_cc cd_134 142) = true := by decide +kernel
set_option maxRecDepth 100000 in
theorem kd_142 : ab_ckd cd_134 142 := ⟨by decide +kernel, ce_142, fun b hb => List.all_eq_true.mp cl_142 b hb⟩
set_option maxRecDepth 100000 in
theorem ce_143 : ab_ce cd_135 143 = true := by decide +kernel
set_option maxRecDepth 100000 in
theorem kd_143 : ab_ckd cd_135 143 := ⟨by decide +kernel, ce_143, fun b hb => by cases hb⟩
set_option maxRecDepth 100000 in
theorem ce_144 : ab_ce cd_136 144 = true := by decide +kernel
set_option maxRecDepth 100000 in
theorem cl_144 : (ab_c cd_136).all (ab_cc cd_136 144) = true := by decide +kernel
set_option maxRecDepth 100000 in
theorem kd_144 : ab_ckd cd_136 144 := ⟨by decide +kernel, ce_144, fun b hb => List.all_eq_true.mp cl_144 b hb⟩
set_option maxRecDepth 100000 in
theorem ce_145 : ab_ce cd_137 145 = true := by decide +kernel
set_option maxRecDepth 100000 in
theorem kd_145 : ab_ckd cd_137 145 := ⟨by decide +kernel, ce_145, fun b hb => by cases hb⟩
set_option maxRecDepth 100000 in
theorem ce_146 : ab_ce cd_138 146 = true := by decide +kernel
set_option maxRecDepth 100000 in
theorem cl_146 : (ab_c cd_138).all (ab_cc cd_138 146) = true := by decide +kernel
set_option maxRecDepth 100000 in
theorem kd_146 : ab_ckd cd_138 146 := ⟨by decide +kernel, ce_146, fun b hb => List.all_eq_true.mp cl_146 b hb⟩
set_option maxRecDepth 100000 in
theorem ce_147 : ab_ce cd_139 147 = true := by decide +kernel
set_option maxRecDepth 100000 in
theorem cl_147 : (ab_c cd_139).all (ab_cc cd_139 147) = true := by decide +kernel
set_option maxRecDepth 100000 in
theorem kd_147 : ab_ckd cd_139 147 := ⟨by decide +kernel, ce_147, fun b hb => List.all_eq_true.mp cl_147 b hb⟩
set_option maxRecDepth 100000 in
theorem ce_148 : ab_ce cd_222 148 = true := by decide +kernel
set_option maxRecDepth 100000 in
theorem cl_148 : (ab_c cd_222).all (ab_cc cd_222 148) = true := by decide +kernel
set_option maxRecDepth 100000 in
theorem kd_148 : ab_ckd cd_222 148 := ⟨by decide +kernel, ce_148, fun b hb => List.all_eq_true.mp cl_148 b hb⟩
set_option maxRecDepth 100000 in
theorem ce_149 : ab_ce cd_140 149 = true := by decide +kernel
set_option maxRecDepth 100000 in
theorem kd_149 : ab_ckd cd_140 149 := ⟨by decide +kernel, ce_149, fun b hb => by cases hb⟩
set_option maxRecDepth 100000 in
theorem ce_150 : ab_ce cd_141 150 = true := by decide +kernel
set_option maxRecDepth 100000 in
theorem cl_150 : (ab_c cd_141).all (ab_cc cd_141 150) = true := by decide +kernel
set_option maxRecDepth 100000 in
theorem kd_150 : ab_ckd cd_141 150 := ⟨by decide +kernel, ce_150, fun b hb => List.all_eq_true.mp cl_150 b hb⟩
