set_option maxRecDepth 100000 in
theorem ce_132 : ab_ce cd_132 132 = true := by decide +kernel
set_option maxRecDepth 100000 in
theorem cl_132_0 : (((ab_c cd_132).drop 0).take 1).all (ab_cc cd_132 132) = true := by decide +kernel
set_option maxRecDepth 100000 in
theorem cl_132_1 : (((ab_c cd_132).drop 1).take 1).all (ab_cc cd_132 132) = true := by decide +kernel
set_option maxRecDepth 100000 in
theorem cl_132_2 : (((ab_c cd_132).drop 2).take 1).all (ab_cc cd_132 132) = true := by decide +kernel
set_option maxRecDepth 100000 in
theorem cl_132_3 : (((ab_c cd_132).drop 3).take 1).all (ab_cc cd_132 132) = true := by decide +kernel
set_option maxRecDepth 100000 in
theorem cl_132_4 : (((ab_c cd_132).drop 4).take 1).all (ab_cc cd_132 132) = true := by decide +kernel
set_option maxRecDepth 100000 in
theorem cl_132_5 : (((ab_c cd_132).drop 5).take 1).all (ab_cc cd_132 132) = true := by decide +kernel
set_option maxRecDepth 100000 in
theorem cl_132_6 : (((ab_c cd_132).drop 6).take 1).all (ab_cc cd_132 132) = true := by decide +kernel
set_option maxRecDepth 100000 in
theorem cl_132_7 : (((ab_c cd_132).drop 7).take 1).all (ab_cc cd_132 132) = true := by decide +kernel
set_option maxRecDepth 100000 in
theorem cl_132_8 : (((ab_c cd_132).drop 8).take 1).all (ab_cc cd_132 132) = true := by decide +kernel
set_option maxRecDepth 100000 in
theorem cl_132_9 : (((ab_c cd_132).drop 9).take 1).all (ab_cc cd_132 132) = true := by decide +kernel
set_option maxRecDepth 100000 in
theorem cl_132_10 : (((ab_c cd_132).drop 10).take 1).all (ab_cc cd_132 132) = true := by decide +kernel
set_option maxRecDepth 100000 in
theorem cl_132_11 : (((ab_c cd_132).drop 11).take 1).all (ab_cc cd_132 132) = true := by decide +kernel
set_option maxRecDepth 100000 in
theorem cl_132_12 : (((ab_c cd_132).drop 12).take 1).all (ab_cc cd_132 132) = true := by decide +kernel
set_option maxRecDepth 100000 in
theorem kd_132 : ab_ckd cd_132 132 := ⟨by decide +kernel, ce_132, ab_all1 (n := 13) (by decide +kernel) (fun j hj => match j, hj with
  | 0, _ => cl_132_0
  | 1, _ => cl_132_1
  | 2, _ => cl_132_2
  | 3, _ => cl_132_3
  | 4, _ => cl_132_4
  | 5, _ => cl_132_5
  | 6, _ => cl_132_6
  | 7, _ => cl_132_7
  | 8, _ => cl_132_8
  | 9, _ => cl_132_9
  | 10, _ => cl_132_10
  | 11, _ => cl_132_11
  | 12, _ => cl_132_12
  | n + 13, h => absurd h (by omega))⟩
set_option maxRecDepth 100000 in
theorem ce_133 : ab_ce cd_133 133 = true := by decide +kernel
set_option maxRecDepth 100000 in
theorem cl_133 : (ab_c cd_133).all (ab_cc cd_133 133) = true := by decide +kernel
set_option maxRecDepth 100000 in
theorem kd_133 : ab_ckd cd_133 133 := ⟨by decide +kernel, ce_133, fun b hb => List.all_eq_true.mp cl_133 b hb⟩
set_option maxRecDepth 100000 in
theorem ce_134 : ab_ce cd_134 134 = true := by decide +kernel
set_option maxRecDepth 100000 in
theorem cl_134 : (ab_c cd_134).all (ab_cc cd_134 134) = true := by decide +kernel
set_option maxRecDepth 100000 in
theorem kd_134 : ab_ckd cd_134 134 := ⟨by decide +kernel, ce_134, fun b hb => List.all_eq_true.mp cl_134 b hb⟩
set_option maxRecDepth 100000 in
theorem ce_135 : ab_ce cd_135 135 = true := by decide +kernel
set_option maxRecDepth 100000 in
theorem kd_135 : ab_ckd cd_135 135 := ⟨by decide +kernel, ce_135, fun b hb => by cases hb⟩
set_option maxRecDepth 100000 in
theorem ce_136 : ab_ce cd_136 136 = true := by decide +kernel
set_option maxRecDepth 100000 in
theorem cl_136 : (ab_c cd_136).all (ab_cc cd_136 136) = true := by decide +kernel
set_option maxRecDepth 100000 in
theorem kd_136 : ab_ckd cd_136 136 := ⟨by decide +kernel, ce_136, fun b hb => List.all_eq_true.mp cl_136 b hb⟩
set_option maxRecDepth 100000 in
theorem ce_137 : ab_ce cd_137 137 = true := by decide +kernel
set_option maxRecDepth 100000 in
theorem kd_137 : ab_ckd cd_137 137 := ⟨by decide +kernel, ce_137, fun b hb => by cases hb⟩
set_option maxRecDepth 100000 in
theorem ce_138 : ab_ce cd_138 138 = true := by decide +kernel
set_option maxRecDepth 100000 in
theorem cl_138 : (ab_c cd_138).all (ab_cc cd_138 138) = true := by decide +kernel
set_option maxRecDepth 100000 in
theorem kd_138 : ab_ckd cd_138 138 := ⟨by decide +kernel, ce_138, fun b hb => List.all_eq_true.mp cl_138 b hb⟩
set_option maxRecDepth 100000 in
theorem ce_139 : ab_ce cd_139 139 = true := by decide +kernel
set_option maxRecDepth 100000 in
theorem cl_139 : (ab_c cd_139).all (ab_cc cd_139 139) = true := by decide +kernel
set_option maxRecDepth 100000 in
theorem kd_139 : ab_ckd cd_139 139 := ⟨by decide +kernel, ce_139, fun b hb => List.all_eq_true.mp cl_139 b hb⟩
set_option maxRecDepth 100000 in
theorem ce_140 : ab_ce cd_140 140 = true := by decide +kernel
set_option maxRecDepth 100000 in
theorem kd_140 : ab_ckd cd_140 140 := ⟨by decide +kernel, ce_140, fun b hb => by cases hb⟩
set_option maxRecDepth 100000 in
theorem ce_141 : ab_ce cd_141 141 = true := by decide +kernel
set_option maxRecDepth 100000 in
theorem cl_141 : (ab_c cd_141).all (ab_cc cd_141 141) = true := by decide +kernel
set_option maxRecDepth 100000 in
theorem kd_141 : ab_ckd cd_141 141 := ⟨by decide +kernel, ce_141, fun b hb => List.all_eq_true.mp cl_141 b hb⟩
