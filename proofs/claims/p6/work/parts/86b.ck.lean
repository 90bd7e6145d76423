set_option maxRecDepth 100000 in
theorem ce_81 : ab_ce cd_81 81 = true := by decide +kernel
set_option maxRecDepth 100000 in
theorem cl_81 : (ab_c cd_81).all (ab_cc cd_81 81) = true := by decide +kernel
set_option maxRecDepth 100000 in
theorem kd_81 : ab_ckd cd_81 81 := ⟨by decide +kernel, ce_81, fun b hb => List.all_eq_true.mp cl_81 b hb⟩
set_option maxRecDepth 100000 in
theorem ce_82 : ab_ce cd_82 82 = true := by decide +kernel
set_option maxRecDepth 100000 in
theorem cl_82 : (ab_c cd_82).all (ab_cc cd_82 82) = true := by decide +kernel
set_option maxRecDepth 100000 in
theorem kd_82 : ab_ckd cd_82 82 := ⟨by decide +kernel, ce_82, fun b hb => List.all_eq_true.mp cl_82 b hb⟩
set_option maxRecDepth 100000 in
theorem ce_83 : ab_ce cd_83 83 = true := by decide +kernel
set_option maxRecDepth 100000 in
theorem cl_83 : (ab_c cd_83).all (ab_cc cd_83 83) = true := by decide +kernel
set_option maxRecDepth 100000 in
theorem kd_83 : ab_ckd cd_83 83 := ⟨by decide +kernel, ce_83, fun b hb => List.all_eq_true.mp cl_83 b hb⟩
set_option maxRecDepth 100000 in
theorem ce_84 : ab_ce cd_84 84 = true := by decide +kernel
set_option maxRecDepth 100000 in
theorem cl_84 : (ab_c cd_84).all (ab_cc cd_84 84) = true := by decide +kernel
set_option maxRecDepth 100000 in
theorem kd_84 : ab_ckd cd_84 84 := ⟨by decide +kernel, ce_84, fun b hb => List.all_eq_true.mp cl_84 b hb⟩
set_option maxRecDepth 100000 in
theorem ce_85 : ab_ce cd_85 85 = true := by decide +kernel
set_option maxRecDepth 100000 in
theorem cl_85 : (ab_c cd_85).all (ab_cc cd_85 85) = true := by decide +kernel
set_option maxRecDepth 100000 in
theorem kd_85 : ab_ckd cd_85 85 := ⟨by decide +kernel, ce_85, fun b hb => List.all_eq_true.mp cl_85 b hb⟩
set_option maxRecDepth 100000 in
theorem ce_86 : ab_ce cd_86 86 = true := by decide +kernel
set_option maxRecDepth 100000 in
theorem cl_86 : (ab_c cd_86).all (ab_cc cd_86 86) = true := by decide +kernel
set_option maxRecDepth 100000 in
theorem kd_86 : ab_ckd cd_86 86 := ⟨by decide +kernel, ce_86, fun b hb => List.all_eq_true.mp cl_86 b hb⟩
set_option maxRecDepth 100000 in
theorem ce_87 : ab_ce cd_87 87 = true := by decide +kernel
set_option maxRecDepth 100000 in
theorem cl_87 : (ab_c cd_87).all (ab_cc cd_87 87) = true := by decide +kernel
set_option maxRecDepth 100000 in
theorem kd_87 : ab_ckd cd_87 87 := ⟨by decide +kernel, ce_87, fun b hb => List.all_eq_true.mp cl_87 b hb⟩
set_option maxRecDepth 100000 in
theorem ce_88 : ab_ce cd_88 88 = true := by decide +kernel
set_option maxRecDepth 100000 in
theorem cl_88 : (ab_c cd_88).all (ab_cc cd_88 88) = true := by decide +kernel
set_option maxRecDepth 100000 in
theorem kd_88 : ab_ckd cd_88 88 := ⟨by decide +kernel, ce_88, fun b hb => List.all_eq_true.mp cl_88 b hb⟩
set_option maxRecDepth 100000 in
theorem ce_89 : ab_ce cd_89 89 = true := by decide +kernel
set_option maxRecDepth 100000 in
theorem cl_89 : (ab_c cd_89).all (ab_cc cd_89 89) = true := by decide +kernel
set_option maxRecDepth 100000 in
theorem kd_89 : ab_ckd cd_89 89 := ⟨by decide +kernel, ce_89, fun b hb => List.all_eq_true.mp cl_89 b hb⟩
set_option maxRecDepth 100000 in
theorem ce_90 : ab_ce cd_90 90 = true := by decide +kernel
set_option maxRecDepth 100000 in
theorem cl_90 : (ab_c cd_90).all (ab_cc cd_90 90) = true := by decide +kernel
set_option maxRecDepth 100000 in
theorem kd_90 : ab_ckd cd_90 90 := ⟨by decide +kernel, ce_90, fun b hb => List.all_eq_true.mp cl_90 b hb⟩
set_option maxRecDepth 100000 in
theorem ce_91 : ab_ce cd_91 91 = true := by decide +kernel
set_option maxRecDepth 100000 in
theorem cl_91 : (ab_c cd_91).all (ab_cc cd_91 91) = true := by decide +kernel
set_option maxRecDepth 100000 in
theorem kd_91 : ab_ckd cd_91 91 := ⟨by decide +kernel, ce_91, fun b hb => List.all_eq_true.mp cl_91 b hb⟩
set_option maxRecDepth 100000 in
theorem ce_92 : ab_ce cd_92 92 = true := by decide +kernel
set_option maxRecDepth 100000 in
theorem cl_92 : (ab_c cd_92).all (ab_cc cd_92 92) = true := by decide +kernel
set_option maxRecDepth 100000 in
theorem kd_92 : ab_ckd cd_92 92 := ⟨by decide +kernel, ce_92, fun b hb => List.all_eq_true.mp cl_92 b hb⟩
set_option maxRecDepth 100000 in
theorem ce_93 : ab_ce cd_93 93 = true := by decide +kernel
set_option maxRecDepth 100000 in
theorem cl_93 : (ab_c cd_93).all (ab_cc cd_93 93) = true := by decide +kernel
set_option maxRecDepth 100000 in
theorem kd_93 : ab_ckd cd_93 93 := ⟨by decide +kernel, ce_93, fun b hb => List.all_eq_true.mp cl_93 b hb⟩
set_option maxRecDepth 100000 in
theorem ce_94 : ab_ce cd_94 94 = true := by decide +kernel
set_option maxRecDepth 100000 in
theorem cl_94 : (ab_c cd_94).all (ab_cc cd_94 94) = true := by decide +kernel
set_option maxRecDepth 100000 in
theorem kd_94 : ab_ckd cd_94 94 := ⟨by decide +kernel, ce_94, fun b hb => List.all_eq_true.mp cl_94 b hb⟩
set_option maxRecDepth 100000 in
theorem ce_95 : ab_ce cd_95 95 = true := by decide +kernel
set_option maxRecDepth 100000 in
theorem cl_95 : (ab_c cd_95).all (ab_cc cd_95 95) = true := by decide +kernel
set_option maxRecDepth 100000 in
theorem kd_95 : ab_ckd cd_95 95 := ⟨by decide +kernel, ce_95, fun b hb => List.all_eq_true.mp cl_95 b hb⟩
set_option maxRecDepth 100000 in
theorem ce_96 : ab_ce cd_96 96 = true := by decide +kernel
set_option maxRecDepth 100000 in
theorem cl_96 : (ab_c cd_96).all (ab_cc cd_96 96) = true := by decide +kernel
set_option maxRecDepth 100000 in
theorem kd_96 : ab_ckd cd_96 96 := ⟨by decide +kernel, ce_96, fun b hb => List.all_eq_true.mp cl_96 b hb⟩
set_option maxRecDepth 100000 in
theorem ce_97 : ab_ce cd_97 97 = true := by decide +kernel
set_option maxRecDepth 100000 in
theorem kd_97 : ab_ckd cd_97 97 := ⟨by decide +kernel, ce_97, fun b hb => by cases hb⟩
set_option maxRecDepth 100000 in
theorem ce_98 : ab_ce cd_98 98 = true := by decide +kernel
set_option maxRecDepth 100000 in
theorem kd_98 : ab_ckd cd_98 98 := ⟨by decide +kernel, ce_98, fun b hb => by cases hb⟩
set_option maxRecDepth 100000 in
theorem ce_99 : ab_ce cd_99 99 = true := by decide +kernel
set_option maxRecDepth 100000 in
theorem kd_99 : ab_ckd cd_99 99 := ⟨by decide +kernel, ce_99, fun b hb => by cases hb⟩
set_option maxRecDepth 100000 in
theorem ce_100 : ab_ce cd_100 100 = true := by decide +kernel
set_option maxRecDepth 100000 in
theorem kd_100 : ab_ckd cd_100 100 := ⟨by decide +kernel, ce_100, fun b hb => by cases hb⟩
set_option maxRecDepth 100000 in
theorem ce_101 : ab_ce cd_101 101 = true := by decide +kernel
set_option maxRecDepth 100000 in
theorem kd_101 : ab_ckd cd_101 101 := ⟨by decide +kernel, ce_101, fun b hb => by cases hb⟩
set_option maxRecDepth 100000 in
theorem ce_102 : ab_ce cd_102 102 = true := by decide +kernel
set_option maxRecDepth 100000 in
theorem cl_102 : (ab_c cd_102).all (ab_cc cd_102 102) = true := by decide +kernel
set_option maxRecDepth 100000 in
theorem kd_102 : ab_ckd cd_102 102 := ⟨by decide +kernel, ce_102, fun b hb => List.all_eq_true.mp cl_102 b hb⟩
set_option maxRecDepth 100000 in
theorem ce_103 : ab_ce cd_103 103 = true := by decide +kernel
set_option maxRecDepth 100000 in
theorem cl_103 : (ab_c cd_103).all (ab_cc cd_103 103) = true := by decide +kernel
set_option maxRecDepth 100000 in
theorem kd_103 : ab_ckd cd_103 103 := ⟨by decide +kernel, ce_103, fun b hb => List.all_eq_true.mp cl_103 b hb⟩
set_option maxRecDepth 100000 in
theorem ce_104 : ab_ce cd_104 104 = true := by decide +kernel
set_option maxRecDepth 100000 in
theorem cl_104 : (ab_c cd_104).all (ab_cc cd_104 104) = true := by decide +kernel
set_option maxRecDepth 100000 in
theorem kd_104 : ab_ckd cd_104 104 := ⟨by decide +kernel, ce_104, fun b hb => List.all_eq_true.mp cl_104 b hb⟩
set_option maxRecDepth 100000 in
theorem ce_105 : ab_ce cd_105 105 = true := by decide +kernel
set_option maxRecDepth 100000 in
theorem kd_105 : ab_ckd cd_105 105 := ⟨by decide +kernel, ce_105, fun b hb => by cases hb⟩
set_option maxRecDepth 100000 in
theorem ce_106 : ab_ce cd_106 106 = true := by decide +kernel
set_option maxRecDepth 100000 in
theorem cl_106 : (ab_c cd_106).all (ab_cc cd_106 106) = true := by decide +kernel
set_option maxRecDepth 100000 in
theorem kd_106 : ab_ckd cd_106 106 := ⟨by decide +kernel, ce_106, fun b hb => List.all_eq_true.mp cl_106 b hb⟩
set_option maxRecDepth 100000 in
theorem ce_107 : ab_ce cd_107 107 = true := by decide +kernel
set_option maxRecDepth 100000 in
theorem cl_107 : (ab_c cd_107).all (ab_cc cd_107 107) = true := by decide +kernel
set_option maxRecDepth 100000 in
theorem kd_107 : ab_ckd cd_107 107 := ⟨by decide +kernel, ce_107, fun b hb => List.all_eq_true.mp cl_107 b hb⟩
set_option maxRecDepth 100000 in
theorem ce_108 : ab_ce cd_108 108 = true := by decide +kernel
set_option maxRecDepth 100000 in
theorem cl_108 : (ab_c cd_108).all (ab_cc cd_108 108) = true := by decide +kernel
set_option maxRecDepth 100000 in
theorem kd_108 : ab_ckd cd_108 108 := ⟨by decide +kernel, ce_108, fun b hb => List.all_eq_true.mp cl_108 b hb⟩
set_option maxRecDepth 100000 in
theorem ce_109 : ab_ce cd_109 109 = true := by decide +kernel
set_option maxRecDepth 100000 in
theorem cl_109 : (ab_c cd_109).all (ab_cc cd_109 109) = true := by decide +kernel
set_option maxRecDepth 100000 in
theorem kd_109 : ab_ckd cd_109 109 := ⟨by decide +kernel, ce_109, fun b hb => List.all_eq_true.mp cl_109 b hb⟩
set_option maxRecDepth 100000 in
theorem ce_110 : ab_ce cd_110 110 = true := by decide +kernel
set_option maxRecDepth 100000 in
theorem cl_110 : (ab_c cd_110).all (ab_cc cd_110 110) = true := by decide +kernel
set_option maxRecDepth 100000 in
theorem kd_110 : ab_ckd cd_110 110 := ⟨by decide +kernel, ce_110, fun b hb => List.all_eq_true.mp cl_110 b hb⟩
set_option maxRecDepth 100000 in
theorem ce_111 : ab_ce cd_111 111 = true := by decide +kernel
set_option maxRecDepth 100000 in
theorem kd_111 : ab_ckd cd_111 111 := ⟨by decide +kernel, ce_111, fun b hb => by cases hb⟩
set_option maxRecDepth 100000 in
theorem ce_112 : ab_ce cd_112 112 = true := by decide +kernel
set_option maxRecDepth 100000 in
theorem kd_112 : ab_ckd cd_112 112 := ⟨by decide +kernel, ce_112, fun b hb => by cases hb⟩
set_option maxRecDepth 100000 in
theorem ce_113 : ab_ce cd_113 113 = true := by decide +kernel
set_option maxRecDepth 100000 in
theorem kd_113 : ab_ckd cd_113 113 := ⟨by decide +kernel, ce_113, fun b hb => by cases hb⟩
