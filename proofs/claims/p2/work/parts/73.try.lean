set_option maxRecDepth 100000 in
theorem ck_0 : ab_ce cd_0 0 = true := by decide +kernel
set_option maxRecDepth 100000 in
theorem cl_0 : (ab_c cd_0).all (ab_cc cd_0 0) = true := by decide +kernel
set_option maxRecDepth 100000 in
theorem ck_1 : ab_ce cd_1 1 = true := by decide +kernel
set_option maxRecDepth 100000 in
theorem cl_1 : (ab_c cd_1).all (ab_cc cd_1 1) = true := by decide +kernel
set_option maxRecDepth 100000 in
theorem ck_2 : ab_ce cd_2 2 = true := by decide +kernel
set_option maxRecDepth 100000 in
theorem cl_2 : (ab_c cd_2).all (ab_cc cd_2 2) = true := by decide +kernel
set_option maxRecDepth 100000 in
theorem ck_3 : ab_ce cd_3 3 = true := by decide +kernel
set_option maxRecDepth 100000 in
theorem cl_3 : (ab_c cd_3).all (ab_cc cd_3 3) = true := by decide +kernel
set_option maxRecDepth 100000 in
theorem ck_4 : ab_ce cd_4 4 = true := by decide +kernel
set_option maxRecDepth 100000 in
theorem cl_4 : (ab_c cd_4).all (ab_cc cd_4 4) = true := by decide +kernel
set_option maxRecDepth 100000 in
theorem ck_5 : ab_ce cd_5 5 = true := by decide +kernel
set_option maxRecDepth 100000 in
theorem cl_5 : (ab_c cd_5).all (ab_cc cd_5 5) = true := by decide +kernel
set_option maxRecDepth 100000 in
theorem ck_6 : ab_ce cd_6 6 = true := by decide +kernel
set_option maxRecDepth 100000 in
theorem cl_6 : (ab_c cd_6).all (ab_cc cd_6 6) = true := by decide +kernel
set_option maxRecDepth 100000 in
theorem ck_7 : ab_ce cd_7 7 = true := by decide +kernel
set_option maxRecDepth 100000 in
theorem cl_7 : (ab_c cd_7).all (ab_cc cd_7 7) = true := by decide +kernel
set_option maxRecDepth 100000 in
theorem ck_8 : ab_ce cd_8 8 = true := by decide +kernel
set_option maxRecDepth 100000 in
theorem cl_8 : (ab_c cd_8).all (ab_cc cd_8 8) = true := by decide +kernel
set_option maxRecDepth 100000 in
theorem ck_9 : ab_ce cd_9 9 = true := by decide +kernel
set_option maxRecDepth 100000 in
theorem cl_9 : (ab_c cd_9).all (ab_cc cd_9 9) = true := by decide +kernel
set_option maxRecDepth 100000 in
theorem ck_10 : ab_ce cd_10 10 = true := by decide +kernel
set_option maxRecDepth 100000 in
theorem ck_11 : ab_ce cd_11 11 = true := by decide +kernel
set_option maxRecDepth 100000 in
theorem ck_12 : ab_ce cd_12 12 = true := by decide +kernel
set_option maxRecDepth 100000 in
theorem cl_12 : (ab_c cd_12).all (ab_cc cd_12 12) = true := by decide +kernel
set_option maxRecDepth 100000 in
theorem ck_13 : ab_ce cd_13 13 = true := by decide +kernel
set_option maxRecDepth 100000 in
theorem ck_14 : ab_ce cd_14 14 = true := by decide +kernel
set_option maxRecDepth 100000 in
theorem ck_15 : ab_ce cd_15 15 = true := by decide +kernel
set_option maxRecDepth 100000 in
theorem ck_16 : ab_ce cd_16 16 = true := by decide +kernel
set_option maxRecDepth 100000 in
theorem ck_17 : ab_ce cd_17 17 = true := by decide +kernel
set_option maxRecDepth 100000 in
theorem cl_17 : (ab_c cd_17).all (ab_cc cd_17 17) = true := by decide +kernel
set_option maxRecDepth 100000 in
theorem ck_18 : ab_ce cd_18 18 = true := by decide +kernel
set_option maxRecDepth 100000 in
theorem cl_18 : (ab_c cd_18).all (ab_cc cd_18 18) = true := by decide +kernel
set_option maxRecDepth 100000 in
theorem ck_19 : ab_ce cd_19 19 = true := by decide +kernel
set_option maxRecDepth 100000 in
theorem ck_20 : ab_ce cd_20 20 = true := by decide +kernel
set_option maxRecDepth 100000 in
theorem ck_21 : ab_ce cd_21 21 = true := by decide +kernel
set_option maxRecDepth 100000 in
theorem cl_21 : (ab_c cd_21).all (ab_cc cd_21 21) = true := by decide +kernel
set_option maxRecDepth 100000 in
theorem ck_22 : ab_ce cd_22 22 = true := by decide +kernel
set_option maxRecDepth 100000 in
theorem cl_22 : (ab_c cd_22).all (ab_cc cd_22 22) = true := by decide +kernel
set_option maxRecDepth 100000 in
theorem ck_23 : ab_ce cd_23 23 = true := by decide +kernel
set_option maxRecDepth 100000 in
theorem cl_23 : (ab_c cd_23).all (ab_cc cd_23 23) = true := by decide +kernel
set_option maxRecDepth 100000 in
theorem ck_24 : ab_ce cd_24 24 = true := by decide +kernel
set_option maxRecDepth 100000 in
theorem cl_24 : (ab_c cd_24).all (ab_cc cd_24 24) = true := by decide +kernel
set_option maxRecDepth 100000 in
theorem ck_25 : ab_ce cd_25 25 = true := by decide +kernel
set_option maxRecDepth 100000 in
theorem cl_25 : (ab_c cd_25).all (ab_cc cd_25 25) = true := by decide +kernel
set_option maxRecDepth 100000 in
theorem ck_26 : ab_ce cd_26 26 = true := by decide +kernel
set_option maxRecDepth 100000 in
theorem ck_27 : ab_ce cd_27 27 = true := by decide +kernel
set_option maxRecDepth 100000 in
theorem cl_27 : (ab_c cd_27).all (ab_cc cd_27 27) = true := by decide +kernel
set_option maxRecDepth 100000 in
theorem ck_28 : ab_ce cd_28 28 = true := by decide +kernel
set_option maxRecDepth 100000 in
theorem cl_28 : (ab_c cd_28).all (ab_cc cd_28 28) = true := by decide +kernel
set_option maxRecDepth 100000 in
theorem ck_29 : ab_ce cd_29 29 = true := by decide +kernel
set_option maxRecDepth 100000 in
theorem cl_29 : (ab_c cd_29).all (ab_cc cd_29 29) = true := by decide +kernel
set_option maxRecDepth 100000 in
theorem ck_30 : ab_ce cd_30 30 = true := by decide +kernel
set_option maxRecDepth 100000 in
theorem cl_30 : (ab_c cd_30).all (ab_cc cd_30 30) = true := by decide +kernel
set_option maxRecDepth 100000 in
theorem ck_31 : ab_ce cd_31 31 = true := by decide +kernel
set_option maxRecDepth 100000 in
theorem cl_31 : (ab_c cd_31).all (ab_cc cd_31 31) = true := by decide +kernel
set_option maxRecDepth 100000 in
theorem ck_32 : ab_ce cd_32 32 = true := by decide +kernel
set_option maxRecDepth 100000 in
theorem cl_32 : (ab_c cd_32).all (ab_cc cd_32 32) = true := by decide +kernel
set_option maxRecDepth 100000 in
theorem ck_33 : ab_ce cd_33 33 = true := by decide +kernel
set_option maxRecDepth 100000 in
theorem cl_33 : (ab_c cd_33).all (ab_cc cd_33 33) = true := by decide +kernel
set_option maxRecDepth 100000 in
theorem ck_34 : ab_ce cd_34 34 = true := by decide +kernel
set_option maxRecDepth 100000 in
theorem cl_34 : (ab_c cd_34).all (ab_cc cd_34 34) = true := by decide +kernel
set_option maxRecDepth 100000 in
theorem ck_35 : ab_ce cd_35 35 = true := by decide +kernel
set_option maxRecDepth 100000 in
theorem cl_35 : (ab_c cd_35).all (ab_cc cd_35 35) = true := by decide +kernel
set_option maxRecDepth 100000 in
theorem ck_36 : ab_ce cd_36 36 = true := by decide +kernel
set_option maxRecDepth 100000 in
theorem ck_37 : ab_ce cd_37 37 = true := by decide +kernel
set_option maxRecDepth 100000 in
theorem cl_37 : (ab_c cd_37).all (ab_cc cd_37 37) = true := by decide +kernel
set_option maxRecDepth 100000 in
theorem ck_38 : ab_ce cd_38 38 = true := by decide +kernel
set_option maxRecDepth 100000 in
theorem cl_38 : (ab_c cd_38).all (ab_cc cd_38 38) = true := by decide +kernel
set_option maxRecDepth 100000 in
theorem ck_39 : ab_ce cd_39 39 = true := by decide +kernel
set_option maxRecDepth 100000 in
theorem cl_39 : (ab_c cd_39).all (ab_cc cd_39 39) = true := by decide +kernel
set_option maxRecDepth 100000 in
theorem ck_40 : ab_ce cd_40 40 = true := by decide +kernel
set_option maxRecDepth 100000 in
theorem cl_40 : (ab_c cd_40).all (ab_cc cd_40 40) = true := by decide +kernel
set_option maxRecDepth 100000 in
theorem ck_41 : ab_ce cd_41 41 = true := by decide +kernel
set_option maxRecDepth 100000 in
theorem ck_42 : ab_ce cd_42 42 = true := by decide +kernel
set_option maxRecDepth 100000 in
theorem cl_42 : (ab_c cd_42).all (ab_cc cd_42 42) = true := by decide +kernel
set_option maxRecDepth 100000 in
theorem ck_43 : ab_ce cd_43 43 = true := by decide +kernel
set_option maxRecDepth 100000 in
theorem cl_43 : (ab_c cd_43).all (ab_cc cd_43 43) = true := by decide +kernel
set_option maxRecDepth 100000 in
theorem ck_44 : ab_ce cd_44 44 = true := by decide +kernel
set_option maxRecDepth 100000 in
theorem ck_45 : ab_ce cd_45 45 = true := by decide +kernel
set_option maxRecDepth 100000 in
theorem ck_46 : ab_ce cd_46 46 = true := by decide +kernel
set_option maxRecDepth 100000 in
theorem ck_47 : ab_ce cd_47 47 = true := by decide +kernel
set_option maxRecDepth 100000 in
theorem ck_48 : ab_ce cd_48 48 = true := by decide +kernel
set_option maxRecDepth 100000 in
theorem cl_48 : (ab_c cd_48).all (ab_cc cd_48 48) = true := by decide +kernel
set_option maxRecDepth 100000 in
theorem ck_49 : ab_ce cd_49 49 = true := by decide +kernel
set_option maxRecDepth 100000 in
theorem ck_50 : ab_ce cd_50 50 = true := by decide +kernel
set_option maxRecDepth 100000 in
theorem ck_51 : ab_ce cd_51 51 = true := by decide +kernel
set_option maxRecDepth 100000 in
theorem cl_51 : (ab_c cd_51).all (ab_cc cd_51 51) = true := by decide +kernel
set_option maxRecDepth 100000 in
theorem ck_52 : ab_ce cd_52 52 = true := by decide +kernel
set_option maxRecDepth 100000 in
theorem ck_53 : ab_ce cd_53 53 = true := by decide +kernel
set_option maxRecDepth 100000 in
theorem cl_53 : (ab_c cd_53).all (ab_cc cd_53 53) = true := by decide +kernel
set_option maxRecDepth 100000 in
theorem ck_54 : ab_ce cd_54 54 = true := by decide +kernel
set_option maxRecDepth 100000 in
theorem ck_55 : ab_ce cd_55 55 = true := by decide +kernel
set_option maxRecDepth 100000 in
theorem ck_56 : ab_ce cd_56 56 = true := by decide +kernel
set_option maxRecDepth 100000 in
theorem ck_57 : ab_ce cd_57 57 = true := by decide +kernel
set_option maxRecDepth 100000 in
theorem cl_57 : (ab_c cd_57).all (ab_cc cd_57 57) = true := by decide +kernel
set_option maxRecDepth 100000 in
theorem ck_58 : ab_ce cd_58 58 = true := by decide +kernel
set_option maxRecDepth 100000 in
theorem cl_58 : (ab_c cd_58).all (ab_cc cd_58 58) = true := by decide +kernel
set_option maxRecDepth 100000 in
theorem ck_59 : ab_ce cd_59 59 = true := by decide +kernel
set_option maxRecDepth 100000 in
theorem ck_60 : ab_ce cd_60 60 = true := by decide +kernel
set_option maxRecDepth 100000 in
theorem ck_61 : ab_ce cd_61 61 = true := by decide +kernel
set_option maxRecDepth 100000 in
theorem cl_61 : (ab_c cd_61).all (ab_cc cd_61 61) = true := by decide +kernel
set_option maxRecDepth 100000 in
theorem ck_62 : ab_ce cd_62 62 = true := by decide +kernel
set_option maxRecDepth 100000 in
theorem cl_62 : (ab_c cd_62).all (ab_cc cd_62 62) = true := by decide +kernel
set_option maxRecDepth 100000 in
theorem ck_63 : ab_ce cd_63 63 = true := by decide +kernel
set_option maxRecDepth 100000 in
theorem ck_64 : ab_ce cd_64 64 = true := by decide +kernel
set_option maxRecDepth 100000 in
theorem ck_65 : ab_ce cd_65 65 = true := by decide +kernel
set_option maxRecDepth 100000 in
theorem ck_66 : ab_ce cd_66 66 = true := by decide +kernel
set_option maxRecDepth 100000 in
theorem ck_67 : ab_ce cd_67 67 = true := by decide +kernel
set_option maxRecDepth 100000 in
theorem ck_68 : ab_ce cd_68 68 = true := by decide +kernel
set_option maxRecDepth 100000 in
theorem cl_68 : (ab_c cd_68).all (ab_cc cd_68 68) = true := by decide +kernel
set_option maxRecDepth 100000 in
theorem ck_69 : ab_ce cd_69 69 = true := by decide +kernel
set_option maxRecDepth 100000 in
theorem ck_70 : ab_ce cd_70 70 = true := by decide +kernel
set_option maxRecDepth 100000 in
theorem ck_71 : ab_ce cd_71 71 = true := by decide +kernel
set_option maxRecDepth 100000 in
theorem cl_71 : (ab_c cd_71).all (ab_cc cd_71 71) = true := by decide +kernel
set_option maxRecDepth 100000 in
theorem ck_72 : ab_ce cd_72 72 = true := by decide +kernel
set_option maxRecDepth 100000 in
theorem ck_73 : ab_ce cd_73 73 = true := by decide +kernel
set_option maxRecDepth 100000 in
theorem cl_73 : (ab_c cd_73).all (ab_cc cd_73 73) = true := by decide +kernel
set_option maxRecDepth 100000 in
theorem ck_74 : ab_ce cd_74 74 = true := by decide +kernel
set_option maxRecDepth 100000 in
theorem cl_74 : (ab_c cd_74).all (ab_cc cd_74 74) = true := by decide +kernel
set_option maxRecDepth 100000 in
theorem ck_75 : ab_ce cd_75 75 = true := by decide +kernel
set_option maxRecDepth 100000 in
theorem cl_75 : (ab_c cd_75).all (ab_cc cd_75 75) = true := by decide +kernel
set_option maxRecDepth 100000 in
theorem ck_76 : ab_ce cd_76 76 = true := by decide +kernel
set_option maxRecDepth 100000 in
theorem cl_76 : (ab_c cd_76).all (ab_cc cd_76 76) = true := by decide +kernel
set_option maxRecDepth 100000 in
theorem ck_77 : ab_ce cd_77 77 = true := by decide +kernel
set_option maxRecDepth 100000 in
theorem cl_77 : (ab_c cd_77).all (ab_cc cd_77 77) = true := by decide +kernel
set_option maxRecDepth 100000 in
theorem ck_78 : ab_ce cd_78 78 = true := by decide +kernel
set_option maxRecDepth 100000 in
theorem cl_78 : (ab_c cd_78).all (ab_cc cd_78 78) = true := by decide +kernel
set_option maxRecDepth 100000 in
theorem ck_79 : ab_ce cd_79 79 = true := by decide +kernel
set_option maxRecDepth 100000 in
theorem cl_79 : (ab_c cd_79).all (ab_cc cd_79 79) = true := by decide +kernel
set_option maxRecDepth 100000 in
theorem ck_80 : ab_ce cd_80 80 = true := by decide +kernel
set_option maxRecDepth 100000 in
theorem cl_80 : (ab_c cd_80).all (ab_cc cd_80 80) = true := by decide +kernel
set_option maxRecDepth 100000 in
theorem ck_81 : ab_ce cd_81 81 = true := by decide +kernel
set_option maxRecDepth 100000 in
theorem cl_81 : (ab_c cd_81).all (ab_cc cd_81 81) = true := by decide +kernel
set_option maxRecDepth 100000 in
theorem ck_82 : ab_ce cd_82 82 = true := by decide +kernel
set_option maxRecDepth 100000 in
theorem cl_82 : (ab_c cd_82).all (ab_cc cd_82 82) = true := by decide +kernel
set_option maxRecDepth 100000 in
theorem ck_83 : ab_ce cd_83 83 = true := by decide +kernel
set_option maxRecDepth 100000 in
theorem cl_83 : (ab_c cd_83).all (ab_cc cd_83 83) = true := by decide +kernel
set_option maxRecDepth 100000 in
theorem ck_84 : ab_ce cd_84 84 = true := by decide +kernel
set_option maxRecDepth 100000 in
theorem cl_84 : (ab_c cd_84).all (ab_cc cd_84 84) = true := by decide +kernel
set_option maxRecDepth 100000 in
theorem ck_85 : ab_ce cd_85 85 = true := by decide +kernel
set_option maxRecDepth 100000 in
theorem cl_85 : (ab_c cd_85).all (ab_cc cd_85 85) = true := by decide +kernel
set_option maxRecDepth 100000 in
theorem ck_86 : ab_ce cd_86 86 = true := by decide +kernel
set_option maxRecDepth 100000 in
theorem cl_86 : (ab_c cd_86).all (ab_cc cd_86 86) = true := by decide +kernel
set_option maxRecDepth 100000 in
theorem ck_87 : ab_ce cd_87 87 = true := by decide +kernel
set_option maxRecDepth 100000 in
theorem cl_87 : (ab_c cd_87).all (ab_cc cd_87 87) = true := by decide +kernel
set_option maxRecDepth 100000 in
theorem ck_88 : ab_ce cd_88 88 = true := by decide +kernel
set_option maxRecDepth 100000 in
theorem cl_88 : (ab_c cd_88).all (ab_cc cd_88 88) = true := by decide +kernel
set_option maxRecDepth 100000 in
theorem ck_89 : ab_ce cd_89 89 = true := by decide +kernel
set_option maxRecDepth 100000 in
theorem cl_89 : (ab_c cd_89).all (ab_cc cd_89 89) = true := by decide +kernel
set_option maxRecDepth 100000 in
theorem ck_90 : ab_ce cd_90 90 = true := by decide +kernel
set_option maxRecDepth 100000 in
theorem cl_90 : (ab_c cd_90).all (ab_cc cd_90 90) = true := by decide +kernel
set_option maxRecDepth 100000 in
theorem ck_91 : ab_ce cd_91 91 = true := by decide +kernel
set_option maxRecDepth 100000 in
theorem cl_91 : (ab_c cd_91).all (ab_cc cd_91 91) = true := by decide +kernel
set_option maxRecDepth 100000 in
theorem ck_92 : ab_ce cd_92 92 = true := by decide +kernel
set_option maxRecDepth 100000 in
theorem cl_92 : (ab_c cd_92).all (ab_cc cd_92 92) = true := by decide +kernel
set_option maxRecDepth 100000 in
theorem ck_93 : ab_ce cd_93 93 = true := by decide +kernel
set_option maxRecDepth 100000 in
theorem cl_93 : (ab_c cd_93).all (ab_cc cd_93 93) = true := by decide +kernel
set_option maxRecDepth 100000 in
theorem ck_94 : ab_ce cd_94 94 = true := by decide +kernel
set_option maxRecDepth 100000 in
theorem cl_94 : (ab_c cd_94).all (ab_cc cd_94 94) = true := by decide +kernel
set_option maxRecDepth 100000 in
theorem ck_95 : ab_ce cd_95 95 = true := by decide +kernel
set_option maxRecDepth 100000 in
theorem cl_95 : (ab_c cd_95).all (ab_cc cd_95 95) = true := by decide +kernel
set_option maxRecDepth 100000 in
theorem ck_96 : ab_ce cd_96 96 = true := by decide +kernel
set_option maxRecDepth 100000 in
theorem cl_96 : (ab_c cd_96).all (ab_cc cd_96 96) = true := by decide +kernel
set_option maxRecDepth 100000 in
theorem ck_97 : ab_ce cd_97 97 = true := by decide +kernel
set_option maxRecDepth 100000 in
theorem cl_97 : (ab_c cd_97).all (ab_cc cd_97 97) = true := by decide +kernel
set_option maxRecDepth 100000 in
theorem ck_98 : ab_ce cd_98 98 = true := by decide +kernel
set_option maxRecDepth 100000 in
theorem cl_98 : (ab_c cd_98).all (ab_cc cd_98 98) = true := by decide +kernel
set_option maxRecDepth 100000 in
theorem ck_99 : ab_ce cd_99 99 = true := by decide +kernel
set_option maxRecDepth 100000 in
theorem cl_99 : (ab_c cd_99).all (ab_cc cd_99 99) = true := by decide +kernel
set_option maxRecDepth 100000 in
theorem ck_100 : ab_ce cd_100 100 = true := by decide +kernel
set_option maxRecDepth 100000 in
theorem ck_101 : ab_ce cd_101 101 = true := by decide +kernel
set_option maxRecDepth 100000 in
theorem ck_102 : ab_ce cd_102 102 = true := by decide +kernel
set_option maxRecDepth 100000 in
theorem ck_103 : ab_ce cd_103 103 = true := by decide +kernel
set_option maxRecDepth 100000 in
theorem ck_104 : ab_ce cd_104 104 = true := by decide +kernel
set_option maxRecDepth 100000 in
theorem ck_105 : ab_ce cd_105 105 = true := by decide +kernel
set_option maxRecDepth 100000 in
theorem cl_105 : (ab_c cd_105).all (ab_cc cd_105 105) = true := by decide +kernel
set_option maxRecDepth 100000 in
theorem ck_106 : ab_ce cd_106 106 = true := by decide +kernel
set_option maxRecDepth 100000 in
theorem cl_106 : (ab_c cd_106).all (ab_cc cd_106 106) = true := by decide +kernel
set_option maxRecDepth 100000 in
theorem ck_107 : ab_ce cd_107 107 = true := by decide +kernel
set_option maxRecDepth 100000 in
theorem cl_107 : (ab_c cd_107).all (ab_cc cd_107 107) = true := by decide +kernel
set_option maxRecDepth 100000 in
theorem ck_108 : ab_ce cd_108 108 = true := by decide +kernel
set_option maxRecDepth 100000 in
theorem ck_109 : ab_ce cd_109 109 = true := by decide +kernel
set_option maxRecDepth 100000 in
theorem cl_109 : (ab_c cd_109).all (ab_cc cd_109 109) = true := by decide +kernel
set_option maxRecDepth 100000 in
theorem ck_110 : ab_ce cd_110 110 = true := by decide +kernel
set_option maxRecDepth 100000 in
theorem cl_110 : (ab_c cd_110).all (ab_cc cd_110 110) = true := by decide +kernel
set_option maxRecDepth 100000 in
theorem ck_111 : ab_ce cd_111 111 = true := by decide +kernel
set_option maxRecDepth 100000 in
theorem cl_111 : (ab_c cd_111).all (ab_cc cd_111 111) = true := by decide +kernel
set_option maxRecDepth 100000 in
theorem ck_112 : ab_ce cd_112 112 = true := by decide +kernel
set_option maxRecDepth 100000 in
theorem cl_112 : (ab_c cd_112).all (ab_cc cd_112 112) = true := by decide +kernel
set_option maxRecDepth 100000 in
theorem ck_113 : ab_ce cd_113 113 = true := by decide +kernel
set_option maxRecDepth 100000 in
theorem cl_113 : (ab_c cd_113).all (ab_cc cd_113 113) = true := by decide +kernel
set_option maxRecDepth 100000 in
theorem ck_114 : ab_ce cd_114 114 = true := by decide +kernel
set_option maxRecDepth 100000 in
theorem ck_115 : ab_ce cd_115 115 = true := by decide +kernel
set_option maxRecDepth 100000 in
theorem ck_116 : ab_ce cd_116 116 = true := by decide +kernel
set_option maxRecDepth 100000 in
theorem ck_117 : ab_ce cd_117 117 = true := by decide +kernel
set_option maxRecDepth 100000 in
theorem cl_117 : (ab_c cd_117).all (ab_cc cd_117 117) = true := by decide +kernel
set_option maxRecDepth 100000 in
theorem ck_118 : ab_ce cd_118 118 = true := by decide +kernel
set_option maxRecDepth 100000 in
theorem ck_119 : ab_ce cd_119 119 = true := by decide +kernel
set_option maxRecDepth 100000 in
theorem ck_120 : ab_ce cd_120 120 = true := by decide +kernel
set_option maxRecDepth 100000 in
theorem ck_121 : ab_ce cd_121 121 = true := by decide +kernel
set_option maxRecDepth 100000 in
theorem cl_121 : (ab_c cd_121).all (ab_cc cd_121 121) = true := by decide +kernel
set_option maxRecDepth 100000 in
theorem ck_122 : ab_ce cd_122 122 = true := by decide +kernel
set_option maxRecDepth 100000 in
theorem cl_122 : (ab_c cd_122).all (ab_cc cd_122 122) = true := by decide +kernel
set_option maxRecDepth 100000 in
theorem ck_123 : ab_ce cd_123 123 = true := by decide +kernel
set_option maxRecDepth 100000 in
theorem ck_124 : ab_ce cd_124 124 = true := by decide +kernel
set_option maxRecDepth 100000 in
theorem cl_124 : (ab_c cd_124).all (ab_cc cd_124 124) = true := by decide +kernel
set_option maxRecDepth 100000 in
theorem ck_125 : ab_ce cd_125 125 = true := by decide +kernel
set_option maxRecDepth 100000 in
theorem cl_125 : (ab_c cd_125).all (ab_cc cd_125 125) = true := by decide +kernel
set_option maxRecDepth 100000 in
theorem ck_126 : ab_ce cd_126 126 = true := by decide +kernel
set_option maxRecDepth 100000 in
theorem cl_126 : (ab_c cd_126).all (ab_cc cd_126 126) = true := by decide +kernel
set_option maxRecDepth 100000 in
theorem ck_127 : ab_ce cd_127 127 = true := by decide +kernel
set_option maxRecDepth 100000 in
theorem cl_127 : (ab_c cd_127).all (ab_cc cd_127 127) = true := by decide +kernel
set_option maxRecDepth 100000 in
theorem ck_128 : ab_ce cd_128 128 = true := by decide +kernel
set_option maxRecDepth 100000 in
theorem ck_129 : ab_ce cd_129 129 = true := by decide +kernel
set_option maxRecDepth 100000 in
theorem ck_130 : ab_ce cd_130 130 = true := by decide +kernel
set_option maxRecDepth 100000 in
theorem ck_131 : ab_ce cd_131 131 = true := by decide +kernel
set_option maxRecDepth 100000 in
theorem ck_132 : ab_ce cd_132 132 = true := by decide +kernel
set_option maxRecDepth 100000 in
theorem ck_133 : ab_ce cd_133 133 = true := by decide +kernel
set_option maxRecDepth 100000 in
theorem ck_134 : ab_ce cd_134 134 = true := by decide +kernel
set_option maxRecDepth 100000 in
theorem cl_134 : (ab_c cd_134).all (ab_cc cd_134 134) = true := by decide +kernel
set_option maxRecDepth 100000 in
theorem ck_135 : ab_ce cd_135 135 = true := by decide +kernel
set_option maxRecDepth 100000 in
theorem cl_135 : (ab_c cd_135).all (ab_cc cd_135 135) = true := by decide +kernel
set_option maxRecDepth 100000 in
theorem ck_136 : ab_ce cd_136 136 = true := by decide +kernel
set_option maxRecDepth 100000 in
theorem cl_136 : (ab_c cd_136).all (ab_cc cd_136 136) = true := by decide +kernel
set_option maxRecDepth 100000 in
theorem ck_137 : ab_ce cd_137 137 = true := by decide +kernel
set_option maxRecDepth 100000 in
theorem cl_137 : (ab_c cd_137).all (ab_cc cd_137 137) = true := by decide +kernel
set_option maxRecDepth 100000 in
theorem ck_138 : ab_ce cd_138 138 = true := by decide +kernel
set_option maxRecDepth 100000 in
theorem ck_139 : ab_ce cd_139 139 = true := by decide +kernel
set_option maxRecDepth 100000 in
theorem cl_139 : (ab_c cd_139).all (ab_cc cd_139 139) = true := by decide +kernel
set_option maxRecDepth 100000 in
theorem ck_140 : ab_ce cd_140 140 = true := by decide +kernel
set_option maxRecDepth 100000 in
theorem ck_141 : ab_ce cd_141 141 = true := by decide +kernel
set_option maxRecDepth 100000 in
theorem cl_141 : (ab_c cd_141).all (ab_cc cd_141 141) = true := by decide +kernel
set_option maxRecDepth 100000 in
theorem ck_142 : ab_ce cd_142 142 = true := by decide +kernel
set_option maxRecDepth 100000 in
theorem cl_142 : (ab_c cd_142).all (ab_cc cd_142 142) = true := by decide +kernel
set_option maxRecDepth 100000 in
theorem ck_143 : ab_ce cd_143 143 = true := by decide +kernel
set_option maxRecDepth 100000 in
theorem ck_144 : ab_ce cd_144 144 = true := by decide +kernel
set_option maxRecDepth 100000 in
theorem cl_144 : (ab_c cd_144).all (ab_cc cd_144 144) = true := by decide +kernel
set_option maxRecDepth 100000 in
theorem ck_145 : ab_ce cd_145 145 = true := by decide +kernel
set_option maxRecDepth 100000 in
theorem cl_145 : (ab_c cd_145).all (ab_cc cd_145 145) = true := by decide +kernel
set_option maxRecDepth 100000 in
theorem ck_146 : ab_ce cd_146 146 = true := by decide +kernel
set_option maxRecDepth 100000 in
theorem ck_147 : ab_ce cd_147 147 = true := by decide +kernel
set_option maxRecDepth 100000 in
theorem cl_147 : (ab_c cd_147).all (ab_cc cd_147 147) = true := by decide +kernel
set_option maxRecDepth 100000 in
theorem ck_148 : ab_ce cd_148 148 = true := by decide +kernel
set_option maxRecDepth 100000 in
theorem ck_149 : ab_ce cd_149 149 = true := by decide +kernel
set_option maxRecDepth 100000 in
theorem ck_150 : ab_ce cd_150 150 = true := by decide +kernel
set_option maxRecDepth 100000 in
theorem ck_151 : ab_ce cd_151 151 = true := by decide +kernel
set_option maxRecDepth 100000 in
theorem cl_151 : (ab_c cd_151).all (ab_cc cd_151 151) = true := by decide +kernel
set_option maxRecDepth 100000 in
theorem ck_152 : ab_ce cd_152 152 = true := by decide +kernel
set_option maxRecDepth 100000 in
theorem ck_153 : ab_ce cd_153 153 = true := by decide +kernel
set_option maxRecDepth 100000 in
theorem cl_153 : (ab_c cd_153).all (ab_cc cd_153 153) = true := by decide +kernel
set_option maxRecDepth 100000 in
theorem ck_154 : ab_ce cd_154 154 = true := by decide +kernel
set_option maxRecDepth 100000 in
theorem ck_155 : ab_ce cd_155 155 = true := by decide +kernel
set_option maxRecDepth 100000 in
theorem ck_156 : ab_ce cd_156 156 = true := by decide +kernel
set_option maxRecDepth 100000 in
theorem ck_157 : ab_ce cd_157 157 = true := by decide +kernel
set_option maxRecDepth 100000 in
theorem cl_157 : (ab_c cd_157).all (ab_cc cd_157 157) = true := by decide +kernel
set_option maxRecDepth 100000 in
theorem ck_158 : ab_ce cd_158 158 = true := by decide +kernel
set_option maxRecDepth 100000 in
theorem cl_158 : (ab_c cd_158).all (ab_cc cd_158 158) = true := by decide +kernel
set_option maxRecDepth 100000 in
theorem ck_159 : ab_ce cd_159 159 = true := by decide +kernel
set_option maxRecDepth 100000 in
theorem cl_159 : (ab_c cd_159).all (ab_cc cd_159 159) = true := by decide +kernel
set_option maxRecDepth 100000 in
theorem ck_160 : ab_ce cd_160 160 = true := by decide +kernel
set_option maxRecDepth 100000 in
theorem cl_160 : (ab_c cd_160).all (ab_cc cd_160 160) = true := by decide +kernel
set_option maxRecDepth 100000 in
theorem ck_161 : ab_ce cd_161 161 = true := by decide +kernel
set_option maxRecDepth 100000 in
theorem ck_162 : ab_ce cd_162 162 = true := by decide +kernel
set_option maxRecDepth 100000 in
theorem ck_163 : ab_ce cd_163 163 = true := by decide +kernel
set_option maxRecDepth 100000 in
theorem cl_163 : (ab_c cd_163).all (ab_cc cd_163 163) = true := by decide +kernel
set_option maxRecDepth 100000 in
theorem ck_164 : ab_ce cd_164 164 = true := by decide +kernel
set_option maxRecDepth 100000 in
theorem cl_164 : (ab_c cd_164).all (ab_cc cd_164 164) = true := by decide +kernel
set_option maxRecDepth 100000 in
theorem ck_165 : ab_ce cd_165 165 = true := by decide +kernel
set_option maxRecDepth 100000 in
theorem cl_165 : (ab_c cd_165).all (ab_cc cd_165 165) = true := by decide +kernel
set_option maxRecDepth 100000 in
theorem ck_166 : ab_ce cd_166 166 = true := by decide +kernel
set_option maxRecDepth 100000 in
theorem ck_167 : ab_ce cd_167 167 = true := by decide +kernel
set_option maxRecDepth 100000 in
theorem ck_168 : ab_ce cd_168 168 = true := by decide +kernel
set_option maxRecDepth 100000 in
theorem cl_168 : (ab_c cd_168).all (ab_cc cd_168 168) = true := by decide +kernel
set_option maxRecDepth 100000 in
theorem ck_169 : ab_ce cd_169 169 = true := by decide +kernel
set_option maxRecDepth 100000 in
theorem ck_170 : ab_ce cd_170 170 = true := by decide +kernel
set_option maxRecDepth 100000 in
theorem cl_170 : (ab_c cd_170).all (ab_cc cd_170 170) = true := by decide +kernel
set_option maxRecDepth 100000 in
theorem ck_171 : ab_ce cd_171 171 = true := by decide +kernel
set_option maxRecDepth 100000 in
theorem cl_171 : (ab_c cd_171).all (ab_cc cd_171 171) = true := by decide +kernel
set_option maxRecDepth 100000 in
theorem ck_172 : ab_ce cd_172 172 = true := by decide +kernel
set_option maxRecDepth 100000 in
theorem cl_172 : (ab_c cd_172).all (ab_cc cd_172 172) = true := by decide +kernel
set_option maxRecDepth 100000 in
theorem ck_173 : ab_ce cd_173 173 = true := by decide +kernel
set_option maxRecDepth 100000 in
theorem ck_174 : ab_ce cd_174 174 = true := by decide +kernel
set_option maxRecDepth 100000 in
theorem cl_174 : (ab_c cd_174).all (ab_cc cd_174 174) = true := by decide +kernel
set_option maxRecDepth 100000 in
theorem ck_175 : ab_ce cd_175 175 = true := by decide +kernel
set_option maxRecDepth 100000 in
theorem cl_175 : (ab_c cd_175).all (ab_cc cd_175 175) = true := by decide +kernel
set_option maxRecDepth 100000 in
theorem ck_176 : ab_ce cd_176 176 = true := by decide +kernel
set_option maxRecDepth 100000 in
theorem cl_176 : (ab_c cd_176).all (ab_cc cd_176 176) = true := by decide +kernel
set_option maxRecDepth 100000 in
theorem ck_177 : ab_ce cd_177 177 = true := by decide +kernel
set_option maxRecDepth 100000 in
theorem cl_177 : (ab_c cd_177).all (ab_cc cd_177 177) = true := by decide +kernel
set_option maxRecDepth 100000 in
theorem ck_178 : ab_ce cd_178 178 = true := by decide +kernel
set_option maxRecDepth 100000 in
theorem cl_178 : (ab_c cd_178).all (ab_cc cd_178 178) = true := by decide +kernel
set_option maxRecDepth 100000 in
theorem ck_179 : ab_ce cd_179 179 = true := by decide +kernel
set_option maxRecDepth 100000 in
theorem cl_179 : (ab_c cd_179).all (ab_cc cd_179 179) = true := by decide +kernel
set_option maxRecDepth 100000 in
theorem ck_180 : ab_ce cd_180 180 = true := by decide +kernel
set_option maxRecDepth 100000 in
theorem ck_181 : ab_ce cd_181 181 = true := by decide +kernel
set_option maxRecDepth 100000 in
theorem cl_181 : (ab_c cd_181).all (ab_cc cd_181 181) = true := by decide +kernel
set_option maxRecDepth 100000 in
theorem ck_182 : ab_ce cd_182 182 = true := by decide +kernel
set_option maxRecDepth 100000 in
theorem cl_182 : (ab_c cd_182).all (ab_cc cd_182 182) = true := by decide +kernel
set_option maxRecDepth 100000 in
theorem ck_183 : ab_ce cd_183 183 = true := by decide +kernel
set_option maxRecDepth 100000 in
theorem cl_183 : (ab_c cd_183).all (ab_cc cd_183 183) = true := by decide +kernel
set_option maxRecDepth 100000 in
theorem ck_184 : ab_ce cd_184 184 = true := by decide +kernel
set_option maxRecDepth 100000 in
theorem cl_184 : (ab_c cd_184).all (ab_cc cd_184 184) = true := by decide +kernel
set_option maxRecDepth 100000 in
theorem ck_185 : ab_ce cd_185 185 = true := by decide +kernel
set_option maxRecDepth 100000 in
theorem cl_185 : (ab_c cd_185).all (ab_cc cd_185 185) = true := by decide +kernel
set_option maxRecDepth 100000 in
theorem ck_186 : ab_ce cd_186 186 = true := by decide +kernel
set_option maxRecDepth 100000 in
theorem ck_187 : ab_ce cd_187 187 = true := by decide +kernel
set_option maxRecDepth 100000 in
theorem ck_188 : ab_ce cd_188 188 = true := by decide +kernel
set_option maxRecDepth 100000 in
theorem cl_188 : (ab_c cd_188).all (ab_cc cd_188 188) = true := by decide +kernel
set_option maxRecDepth 100000 in
theorem ck_189 : ab_ce cd_189 189 = true := by decide +kernel
set_option maxRecDepth 100000 in
theorem cl_189 : (ab_c cd_189).all (ab_cc cd_189 189) = true := by decide +kernel
set_option maxRecDepth 100000 in
theorem ck_190 : ab_ce cd_190 190 = true := by decide +kernel
set_option maxRecDepth 100000 in
theorem ck_191 : ab_ce cd_191 191 = true := by decide +kernel
set_option maxRecDepth 100000 in
theorem cl_191 : (ab_c cd_191).all (ab_cc cd_191 191) = true := by decide +kernel
set_option maxRecDepth 100000 in
theorem ck_192 : ab_ce cd_192 192 = true := by decide +kernel
set_option maxRecDepth 100000 in
theorem cl_192 : (ab_c cd_192).all (ab_cc cd_192 192) = true := by decide +kernel
set_option maxRecDepth 100000 in
theorem ck_193 : ab_ce cd_193 193 = true := by decide +kernel
set_option maxRecDepth 100000 in
theorem cl_193 : (ab_c cd_193).all (ab_cc cd_193 193) = true := by decide +kernel
set_option maxRecDepth 100000 in
theorem ck_194 : ab_ce cd_194 194 = true := by decide +kernel
set_option maxRecDepth 100000 in
theorem cl_194 : (ab_c cd_194).all (ab_cc cd_194 194) = true := by decide +kernel
set_option maxRecDepth 100000 in
theorem ck_195 : ab_ce cd_195 195 = true := by decide +kernel
set_option maxRecDepth 100000 in
theorem cl_195 : (ab_c cd_195).all (ab_cc cd_195 195) = true := by decide +kernel
set_option maxRecDepth 100000 in
theorem ck_196 : ab_ce cd_196 196 = true := by decide +kernel
set_option maxRecDepth 100000 in
theorem ck_197 : ab_ce cd_197 197 = true := by decide +kernel
set_option maxRecDepth 100000 in
theorem cl_197 : (ab_c cd_197).all (ab_cc cd_197 197) = true := by decide +kernel
set_option maxRecDepth 100000 in
theorem ck_198 : ab_ce cd_198 198 = true := by decide +kernel
set_option maxRecDepth 100000 in
theorem cl_198 : (ab_c cd_198).all (ab_cc cd_198 198) = true := by decide +kernel
set_option maxRecDepth 100000 in
theorem ck_199 : ab_ce cd_199 199 = true := by decide +kernel
set_option maxRecDepth 100000 in
theorem cl_199 : (ab_c cd_199).all (ab_cc cd_199 199) = true := by decide +kernel
set_option maxRecDepth 100000 in
theorem ck_200 : ab_ce cd_200 200 = true := by decide +kernel
set_option maxRecDepth 100000 in
theorem ck_201 : ab_ce cd_201 201 = true := by decide +kernel
set_option maxRecDepth 100000 in
theorem ck_202 : ab_ce cd_202 202 = true := by decide +kernel
set_option maxRecDepth 100000 in
theorem cl_202 : (ab_c cd_202).all (ab_cc cd_202 202) = true := by decide +kernel
set_option maxRecDepth 100000 in
theorem ck_203 : ab_ce cd_203 203 = true := by decide +kernel
set_option maxRecDepth 100000 in
theorem cl_203 : (ab_c cd_203).all (ab_cc cd_203 203) = true := by decide +kernel
set_option maxRecDepth 100000 in
theorem ck_204 : ab_ce cd_204 204 = true := by decide +kernel
set_option maxRecDepth 100000 in
theorem ck_205 : ab_ce cd_205 205 = true := by decide +kernel
set_option maxRecDepth 100000 in
theorem cl_205 : (ab_c cd_205).all (ab_cc cd_205 205) = true := by decide +kernel
set_option maxRecDepth 100000 in
theorem ck_206 : ab_ce cd_206 206 = true := by decide +kernel
set_option maxRecDepth 100000 in
theorem cl_206 : (ab_c cd_206).all (ab_cc cd_206 206) = true := by decide +kernel
set_option maxRecDepth 100000 in
theorem ck_207 : ab_ce cd_207 207 = true := by decide +kernel
set_option maxRecDepth 100000 in
theorem ck_208 : ab_ce cd_208 208 = true := by decide +kernel
set_option maxRecDepth 100000 in
theorem cl_208 : (ab_c cd_208).all (ab_cc cd_208 208) = true := by decide +kernel
set_option maxRecDepth 100000 in
theorem ck_209 : ab_ce cd_209 209 = true := by decide +kernel
set_option maxRecDepth 100000 in
theorem cl_209 : (ab_c cd_209).all (ab_cc cd_209 209) = true := by decide +kernel
set_option maxRecDepth 100000 in
theorem ck_210 : ab_ce cd_210 210 = true := by decide +kernel
set_option maxRecDepth 100000 in
theorem ck_211 : ab_ce cd_211 211 = true := by decide +kernel
set_option maxRecDepth 100000 in
theorem cl_211 : (ab_c cd_211).all (ab_cc cd_211 211) = true := by decide +kernel
set_option maxRecDepth 100000 in
theorem ck_212 : ab_ce cd_212 212 = true := by decide +kernel
set_option maxRecDepth 100000 in
theorem cl_212 : (ab_c cd_212).all (ab_cc cd_212 212) = true := by decide +kernel
set_option maxRecDepth 100000 in
theorem ck_213 : ab_ce cd_213 213 = true := by decide +kernel
set_option maxRecDepth 100000 in
theorem ck_214 : ab_ce cd_214 214 = true := by decide +kernel
set_option maxRecDepth 100000 in
theorem cl_214 : (ab_c cd_214).all (ab_cc cd_214 214) = true := by decide +kernel
set_option maxRecDepth 100000 in
theorem ck_215 : ab_ce cd_215 215 = true := by decide +kernel
set_option maxRecDepth 100000 in
theorem cl_215 : (ab_c cd_215).all (ab_cc cd_215 215) = true := by decide +kernel
set_option maxRecDepth 100000 in
theorem ck_216 : ab_ce cd_216 216 = true := by decide +kernel
