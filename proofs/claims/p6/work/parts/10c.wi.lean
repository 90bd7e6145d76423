/-! ===== the words by numbers, laid by a program ===== -/
theorem mj_condw {P : Cond → Prop} {b : Bool} {x z : Cond} (h1 : P x) (h2 : P z) : P (cond b x z) := by cases b <;> assumption
theorem mj_t1 {i : Nat} {w : Cond} (h : tables_1_1[i]? = some w) (hg : goodWord w = true) : w ∈ mj_tb := List.mem_filter.mpr ⟨List.mem_append_right _ (List.mem_append_left _ (List.mem_of_getElem? h)), hg⟩
theorem mj_t2 {i : Nat} {w : Cond} (h : tables_1_2[i]? = some w) (hg : goodWord w = true) : w ∈ mj_tb := List.mem_filter.mpr ⟨List.mem_append_right _ (List.mem_append_right _ (List.mem_append_left _ (List.mem_of_getElem? h))), hg⟩
theorem mj_t3 {i : Nat} {w : Cond} (h : tables_1_3[i]? = some w) (hg : goodWord w = true) : w ∈ mj_tb := List.mem_filter.mpr ⟨List.mem_append_right _ (List.mem_append_right _ (List.mem_append_right _ (List.mem_append_left _ (List.mem_of_getElem? h)))), hg⟩
theorem mj_t4 {i : Nat} {w : Cond} (h : tables_1_4[i]? = some w) (hg : goodWord w = true) : w ∈ mj_tb := List.mem_filter.mpr ⟨List.mem_append_right _ (List.mem_append_right _ (List.mem_append_right _ (List.mem_append_right _ (List.mem_append_left _ (List.mem_of_getElem? h))))), hg⟩
theorem mj_t5 {i : Nat} {w : Cond} (h : tables_1_5[i]? = some w) (hg : goodWord w = true) : w ∈ mj_tb := List.mem_filter.mpr ⟨List.mem_append_right _ (List.mem_append_right _ (List.mem_append_right _ (List.mem_append_right _ (List.mem_append_right _ (List.mem_append_left _ (List.mem_of_getElem? h)))))), hg⟩
theorem mj_t6 {i : Nat} {w : Cond} (h : tables_1_6[i]? = some w) (hg : goodWord w = true) : w ∈ mj_tb := List.mem_filter.mpr ⟨List.mem_append_right _ (List.mem_append_right _ (List.mem_append_right _ (List.mem_append_right _ (List.mem_append_right _ (List.mem_append_right _ (List.mem_append_left _ (List.mem_of_getElem? h))))))), hg⟩
theorem mj_t7 {i : Nat} {w : Cond} (h : tables_1_7[i]? = some w) (hg : goodWord w = true) : w ∈ mj_tb := List.mem_filter.mpr ⟨List.mem_append_right _ (List.mem_append_right _ (List.mem_append_right _ (List.mem_append_right _ (List.mem_append_right _ (List.mem_append_right _ (List.mem_append_right _ (List.mem_append_left _ (List.mem_of_getElem? h)))))))), hg⟩
theorem mj_t8 {i : Nat} {w : Cond} (h : tables_1_8[i]? = some w) (hg : goodWord w = true) : w ∈ mj_tb := List.mem_filter.mpr ⟨List.mem_append_right _ (List.mem_append_right _ (List.mem_append_right _ (List.mem_append_right _ (List.mem_append_right _ (List.mem_append_right _ (List.mem_append_right _ (List.mem_append_right _ (List.mem_append_left _ (List.mem_of_getElem? h))))))))), hg⟩
theorem mj_t9 {i : Nat} {w : Cond} (h : tables_1_9[i]? = some w) (hg : goodWord w = true) : w ∈ mj_tb := List.mem_filter.mpr ⟨List.mem_append_right _ (List.mem_append_right _ (List.mem_append_right _ (List.mem_append_right _ (List.mem_append_right _ (List.mem_append_right _ (List.mem_append_right _ (List.mem_append_right _ (List.mem_append_right _ (List.mem_of_getElem? h))))))))), hg⟩
theorem mj_q1 {i : Nat} {q : MethodName × Nat} {w : Cond} (h : lw_privs_1[i]? = some q) (e : Cond.selects q.1.cls q.1 q.1 = w) (hg : goodWord w = true) : w ∈ mj_tb := List.mem_filter.mpr ⟨List.mem_append_left _ (List.mem_map.mpr ⟨q, List.mem_append_left _ (List.mem_of_getElem? h), e⟩), hg⟩
theorem mj_q2 {i : Nat} {q : MethodName × Nat} {w : Cond} (h : lw_privs_2[i]? = some q) (e : Cond.selects q.1.cls q.1 q.1 = w) (hg : goodWord w = true) : w ∈ mj_tb := List.mem_filter.mpr ⟨List.mem_append_left _ (List.mem_map.mpr ⟨q, List.mem_append_right _ (List.mem_append_left _ (List.mem_of_getElem? h)), e⟩), hg⟩
theorem mj_q3 {i : Nat} {q : MethodName × Nat} {w : Cond} (h : lw_privs_3[i]? = some q) (e : Cond.selects q.1.cls q.1 q.1 = w) (hg : goodWord w = true) : w ∈ mj_tb := List.mem_filter.mpr ⟨List.mem_append_left _ (List.mem_map.mpr ⟨q, List.mem_append_right _ (List.mem_append_right _ (List.mem_append_left _ (List.mem_of_getElem? h))), e⟩), hg⟩
theorem mj_q4 {i : Nat} {q : MethodName × Nat} {w : Cond} (h : lw_privs_4[i]? = some q) (e : Cond.selects q.1.cls q.1 q.1 = w) (hg : goodWord w = true) : w ∈ mj_tb := List.mem_filter.mpr ⟨List.mem_append_left _ (List.mem_map.mpr ⟨q, List.mem_append_right _ (List.mem_append_right _ (List.mem_append_right _ (List.mem_append_left _ (List.mem_of_getElem? h)))), e⟩), hg⟩
theorem mj_q5 {i : Nat} {q : MethodName × Nat} {w : Cond} (h : lw_privs_5[i]? = some q) (e : Cond.selects q.1.cls q.1 q.1 = w) (hg : goodWord w = true) : w ∈ mj_tb := List.mem_filter.mpr ⟨List.mem_append_left _ (List.mem_map.mpr ⟨q, List.mem_append_right _ (List.mem_append_right _ (List.mem_append_right _ (List.mem_append_right _ (List.mem_append_left _ (List.mem_of_getElem? h))))), e⟩), hg⟩
theorem mj_q6 {i : Nat} {q : MethodName × Nat} {w : Cond} (h : lw_privs_6[i]? = some q) (e : Cond.selects q.1.cls q.1 q.1 = w) (hg : goodWord w = true) : w ∈ mj_tb := List.mem_filter.mpr ⟨List.mem_append_left _ (List.mem_map.mpr ⟨q, List.mem_append_right _ (List.mem_append_right _ (List.mem_append_right _ (List.mem_append_right _ (List.mem_append_right _ (List.mem_append_left _ (List.mem_of_getElem? h)))))), e⟩), hg⟩
theorem mj_q7 {i : Nat} {q : MethodName × Nat} {w : Cond} (h : lw_privs_7[i]? = some q) (e : Cond.selects q.1.cls q.1 q.1 = w) (hg : goodWord w = true) : w ∈ mj_tb := List.mem_filter.mpr ⟨List.mem_append_left _ (List.mem_map.mpr ⟨q, List.mem_append_right _ (List.mem_append_right _ (List.mem_append_right _ (List.mem_append_right _ (List.mem_append_right _ (List.mem_append_right _ (List.mem_of_getElem? h)))))), e⟩), hg⟩
abbrev ww_0 : Cond := .fieldLink RX0 29 "RentRiver$Cheapest" "towns" "I"
theorem wi_0 : ww_0 ∈ mj_tb := mj_t2 (i := 105) rfl rfl
abbrev ww_1 : Cond := .fieldLink RX0 38 "RentRiver$Cheapest" "lacks" "[I"
theorem wi_1 : ww_1 ∈ mj_tb := mj_t2 (i := 108) rfl rfl
abbrev ww_2 : Cond := .fieldLink RX0 46 "RentRiver$Cheapest" "rest" "[[I"
theorem wi_2 : ww_2 ∈ mj_tb := mj_t2 (i := 110) rfl rfl
abbrev ww_3 : Cond := .methodLink RX0 108 Lib.Math.max.name
theorem wi_3 : ww_3 ∈ mj_tb := mj_t4 (i := 155) rfl rfl
abbrev ww_4 : Cond := .fieldLink RX0 49 "RentRiver$Cheapest" "restBest" "[I"
theorem wi_4 : ww_4 ∈ mj_tb := mj_t2 (i := 111) rfl rfl
abbrev ww_5 : Cond := .fieldLink RX0 32 "RentRiver$Cheapest" "move" "I"
theorem wi_5 : ww_5 ∈ mj_tb := mj_t2 (i := 106) rfl rfl
abbrev ww_6 : Cond := .methodLink RX0 140 Lib.Math.abs.name
theorem wi_6 : ww_6 ∈ mj_tb := mj_t4 (i := 168) rfl rfl
abbrev ww_7 : Cond := .fieldLink RX0 35 "RentRiver$Cheapest" "bridges" "[I"
theorem wi_7 : ww_7 ∈ mj_tb := mj_t2 (i := 107) rfl rfl
abbrev ww_8 : Cond := .methodLink RX0 115 yX0_costOf
theorem wi_8 : ww_8 ∈ mj_tb := mj_t4 (i := 164) rfl rfl
abbrev ww_9 : Cond := .methodLink RX0 3 objectInit
theorem wi_9 : ww_9 ∈ mj_tb := mj_t2 (i := 95) rfl rfl
abbrev ww_10 : Cond := .arrayClass .int
theorem wi_10 : ww_10 ∈ mj_tb := mj_t1 (i := 169) rfl rfl
abbrev ww_11 : Cond := .fieldLink RX0 9 "RentRiver$Cheapest" "plan" "[I"
theorem wi_11 : ww_11 ∈ mj_tb := mj_t2 (i := 97) rfl rfl
abbrev ww_12 : Cond := .fieldLink RX0 15 "RentRiver$Cheapest" "done" "Z"
theorem wi_12 : ww_12 ∈ mj_tb := mj_t2 (i := 99) rfl rfl
abbrev ww_13 : Cond := .fieldLink RX0 19 "RentRiver$Cheapest" "planned" "I"
theorem wi_13 : ww_13 ∈ mj_tb := mj_t2 (i := 101) rfl rfl
abbrev ww_14 : Cond := .fieldLink RX0 23 "RentRiver$Cheapest" "solved" "I"
theorem wi_14 : ww_14 ∈ mj_tb := mj_t2 (i := 103) rfl rfl
abbrev ww_15 : Cond := .fieldLink RX0 26 "RentRiver$Cheapest" "answer" "I"
theorem wi_15 : ww_15 ∈ mj_tb := mj_t2 (i := 104) rfl rfl
abbrev ww_16 : Cond := .classLink RX0 41 "[[I"
theorem wi_16 : ww_16 ∈ mj_tb := mj_t2 (i := 96) rfl rfl
abbrev ww_17 : Cond := .fieldLink RX0 43 "RentRiver$Cheapest" "gains" "[[I"
theorem wi_17 : ww_17 ∈ mj_tb := mj_t2 (i := 109) rfl rfl
abbrev ww_18 : Cond := .fieldLink RX0 52 "RentRiver$Cheapest" "tailGains" "[[I"
theorem wi_18 : ww_18 ∈ mj_tb := mj_t2 (i := 112) rfl rfl
abbrev ww_19 : Cond := .fieldLink RX0 55 "RentRiver$Cheapest" "tailCosts" "[I"
theorem wi_19 : ww_19 ∈ mj_tb := mj_t2 (i := 113) rfl rfl
abbrev ww_20 : Cond := .fieldLink RX0 58 "RentRiver$Cheapest" "tailTowns" "[I"
theorem wi_20 : ww_20 ∈ mj_tb := mj_t2 (i := 114) rfl rfl
abbrev ww_21 : Cond := .fieldLink RX0 61 "RentRiver$Cheapest" "tails" "I"
theorem wi_21 : ww_21 ∈ mj_tb := mj_t2 (i := 115) rfl rfl
abbrev ww_22 : Cond := .fieldLink RX0 64 "RentRiver$Cheapest" "path" "[I"
theorem wi_22 : ww_22 ∈ mj_tb := mj_t2 (i := 116) rfl rfl
abbrev ww_23 : Cond := .fieldLink RX0 67 "RentRiver$Cheapest" "best" "[I"
theorem wi_23 : ww_23 ∈ mj_tb := mj_t2 (i := 117) rfl rfl
abbrev ww_24 : Cond := .fieldLink RX0 70 "RentRiver$Cheapest" "bestPaid" "I"
theorem wi_24 : ww_24 ∈ mj_tb := mj_t2 (i := 118) rfl rfl
abbrev ww_25 : Cond := .methodLink RX0 95 Lib.Math.min.name
theorem wi_25 : ww_25 ∈ mj_tb := mj_t4 (i := 149) rfl rfl
abbrev ww_26 : Cond := .methodLink RX0 111 yX0_putAhead
theorem wi_26 : ww_26 ∈ mj_tb := mj_t4 (i := 160) rfl rfl
abbrev ww_27 : Cond := .fieldLink RX0 94 "RentRiver$Plain" "towns" "I"
theorem wi_27 : ww_27 ∈ mj_tb := mj_t1 (i := 114) rfl rfl
abbrev ww_28 : Cond := .fieldLink RX0 101 "RentRiver$Plain" "move" "I"
theorem wi_28 : ww_28 ∈ mj_tb := mj_t1 (i := 120) rfl rfl
abbrev ww_29 : Cond := .fieldLink RX0 102 "RentRiver$Plain" "told" "[[I"
theorem wi_29 : ww_29 ∈ mj_tb := mj_t1 (i := 102) rfl rfl
abbrev ww_30 : Cond := .methodLink RX0 105 yX3_gain
theorem wi_30 : ww_30 ∈ mj_tb := mj_t4 (i := 150) rfl rfl
abbrev ww_31 : Cond := .methodLink RX0 82 yX0_prepare
theorem wi_31 : ww_31 ∈ mj_tb := mj_t4 (i := 145) rfl rfl
abbrev ww_32 : Cond := .methodLink RX0 86 yX0_listTails
theorem wi_32 : ww_32 ∈ mj_tb := mj_t4 (i := 156) rfl rfl
abbrev ww_33 : Cond := .constant RX0 89 (1000000)
theorem wi_33 : ww_33 ∈ mj_tb := mj_t4 (i := 169) rfl rfl
abbrev ww_34 : Cond := .methodLink RX0 90 yX0_tryMonth
theorem wi_34 : ww_34 ∈ mj_tb := mj_t4 (i := 170) rfl rfl
abbrev ww_35 : Cond := .fieldLink RX0 73 "RentRiver$Plain" "serial" "I"
theorem wi_35 : ww_35 ∈ mj_tb := mj_t1 (i := 130) rfl rfl
abbrev ww_36 : Cond := .methodLink RX0 78 yX0_searchPlan
theorem wi_36 : ww_36 ∈ mj_tb := mj_t4 (i := 141) rfl rfl
abbrev ww_37 : Cond := .methodLink RX0 143 yX0_firstForNothing
theorem wi_37 : ww_37 ∈ mj_tb := mj_t4 (i := 190) rfl rfl
abbrev ww_38 : Cond := .methodLink RX0 118 yX0_leastToCome
theorem wi_38 : ww_38 ∈ mj_tb := mj_t4 (i := 174) rfl rfl
abbrev ww_39 : Cond := .methodLink RX0 122 yX0_lacksAny
theorem wi_39 : ww_39 ∈ mj_tb := mj_t4 (i := 178) rfl rfl
abbrev ww_40 : Cond := .methodLink RX0 126 yX0_keepPath
theorem wi_40 : ww_40 ∈ mj_tb := mj_t4 (i := 182) rfl rfl
abbrev ww_41 : Cond := .methodLink RX0 130 yX0_stayFrom
theorem wi_41 : ww_41 ∈ mj_tb := mj_t4 (i := 186) rfl rfl
abbrev ww_42 : Cond := .methodLink RX0 133 yX0_canBe
theorem wi_42 : ww_42 ∈ mj_tb := mj_t4 (i := 194) rfl rfl
abbrev ww_43 : Cond := .methodLink RX0 137 yX0_tryTails
theorem wi_43 : ww_43 ∈ mj_tb := mj_t4 (i := 198) rfl rfl
abbrev ww_44 : Cond := .methodLink RX0 146 yX0_meetsNeeds
theorem wi_44 : ww_44 ∈ mj_tb := mj_t4 (i := 202) rfl rfl
abbrev ww_45 : Cond := .methodLink RX0 149 yX0_keepTail
theorem wi_45 : ww_45 ∈ mj_tb := mj_t4 (i := 206) rfl rfl
abbrev ww_46 : Cond := .fieldLink RX1 9 "RentRiver$Contracts" "first" "[I"
theorem wi_46 : ww_46 ∈ mj_tb := mj_t1 (i := 180) rfl rfl
abbrev ww_47 : Cond := .fieldLink RX1 15 "RentRiver$Contracts" "second" "[I"
theorem wi_47 : ww_47 ∈ mj_tb := mj_t1 (i := 183) rfl rfl
abbrev ww_48 : Cond := .fieldLink RX1 18 "RentRiver$Contracts" "cost" "[I"
theorem wi_48 : ww_48 ∈ mj_tb := mj_t1 (i := 186) rfl rfl
abbrev ww_49 : Cond := .fieldLink RX1 21 "RentRiver$Contracts" "rows" "I"
theorem wi_49 : ww_49 ∈ mj_tb := mj_t1 (i := 189) rfl rfl
abbrev ww_50 : Cond := .methodLink RX1 28 arraycopyName
theorem wi_50 : ww_50 ∈ mj_tb := mj_t5 (i := 231) rfl rfl
abbrev ww_51 : Cond := .methodLink RX1 3 objectInit
theorem wi_51 : ww_51 ∈ mj_tb := mj_t1 (i := 175) rfl rfl
abbrev ww_52 : Cond := .methodLink RX1 25 yX1_clear
theorem wi_52 : ww_52 ∈ mj_tb := mj_t1 (i := 176) rfl rfl
abbrev ww_53 : Cond := .methodLink RX1 84 yX3_nextTown
theorem wi_53 : ww_53 ∈ mj_tb := mj_t4 (i := 19) rfl rfl
abbrev ww_54 : Cond := .methodLink RX1 34 yX7_advance
theorem wi_54 : ww_54 ∈ mj_tb := mj_t4 (i := 0) rfl rfl
abbrev ww_55 : Cond := .fieldLink RX1 39 "RentRiver$Tape" "kind" "I"
theorem wi_55 : ww_55 ∈ mj_tb := mj_t1 (i := 44) rfl rfl
abbrev ww_56 : Cond := .methodLink RX1 90 yX3_townHere
theorem wi_56 : ww_56 ∈ mj_tb := mj_t4 (i := 20) rfl rfl
abbrev ww_57 : Cond := .methodLink RX1 66 yX7_refuse
theorem wi_57 : ww_57 ∈ mj_tb := mj_t4 (i := 9) rfl rfl
abbrev ww_58 : Cond := .methodLink RX1 93 yX7_numberHere
theorem wi_58 : ww_58 ∈ mj_tb := mj_t4 (i := 21) rfl rfl
abbrev ww_59 : Cond := .methodLink RX1 80 yX1_tell
theorem wi_59 : ww_59 ∈ mj_tb := mj_t4 (i := 22) rfl rfl
abbrev ww_60 : Cond := .fieldLink RX1 54 "RentRiver$Tape" "word" "LRentRiver$Word;"
theorem wi_60 : ww_60 ∈ mj_tb := mj_t1 (i := 54) rfl rfl
abbrev ww_61 : Cond := .fieldLink RX1 58 "RentRiver$Word" "LET" "LRentRiver$Word;"
theorem wi_61 : ww_61 ∈ mj_tb := mj_t4 (i := 5) rfl rfl
abbrev ww_62 : Cond := .fieldLink RX1 63 "RentRiver$Word" "SEA" "LRentRiver$Word;"
theorem wi_62 : ww_62 ∈ mj_tb := mj_t4 (i := 7) rfl rfl
abbrev ww_63 : Cond := .methodLink RX1 69 yX7_nextNumber
theorem wi_63 : ww_63 ∈ mj_tb := mj_t4 (i := 10) rfl rfl
abbrev ww_64 : Cond := .methodLink RX1 73 yX1_tells
theorem wi_64 : ww_64 ∈ mj_tb := mj_t4 (i := 11) rfl rfl
abbrev ww_65 : Cond := .methodLink RX1 76 yX1_readLet
theorem wi_65 : ww_65 ∈ mj_tb := mj_t4 (i := 15) rfl rfl
abbrev ww_66 : Cond := .methodLink RX1 42 yX1_readRow
theorem wi_66 : ww_66 ∈ mj_tb := mj_t4 (i := 1) rfl rfl
abbrev ww_67 : Cond := .methodLink RX1 46 yX7_nextSign
theorem wi_67 : ww_67 ∈ mj_tb := mj_t4 (i := 26) rfl rfl
abbrev ww_68 : Cond := .methodLink RX1 50 yX7_finish
theorem wi_68 : ww_68 ∈ mj_tb := mj_t4 (i := 27) rfl rfl
abbrev ww_69 : Cond := .fieldLink RX2 77 "RentRiver$Year" "months" "I"
theorem wi_69 : ww_69 ∈ mj_tb := mj_t1 (i := 239) rfl rfl
abbrev ww_70 : Cond := .fieldLink RX2 23 "RentRiver$Leaks" "levelsTold" "[Z"
theorem wi_70 : ww_70 ∈ mj_tb := mj_t2 (i := 194) rfl rfl
abbrev ww_71 : Cond := .fieldLink RX2 88 "RentRiver$Year" "of" "[[I"
theorem wi_71 : ww_71 ∈ mj_tb := mj_t2 (i := 10) rfl rfl
abbrev ww_72 : Cond := .fieldLink RX2 27 "RentRiver$Leaks" "levels" "[[I"
theorem wi_72 : ww_72 ∈ mj_tb := mj_t2 (i := 195) rfl rfl
abbrev ww_73 : Cond := .fieldLink RX2 36 "RentRiver$Leaks" "tight" "LRentRiver$Year;"
theorem wi_73 : ww_73 ∈ mj_tb := mj_t2 (i := 197) rfl rfl
abbrev ww_74 : Cond := .fieldLink RX2 30 "RentRiver$Leaks" "last" "I"
theorem wi_74 : ww_74 ∈ mj_tb := mj_t2 (i := 196) rfl rfl
abbrev ww_75 : Cond := .fieldLink RX2 40 "RentRiver$Leaks" "leaking" "LRentRiver$Year;"
theorem wi_75 : ww_75 ∈ mj_tb := mj_t2 (i := 198) rfl rfl
abbrev ww_76 : Cond := .methodLink RX2 80 yX10_copy
theorem wi_76 : ww_76 ∈ mj_tb := mj_t5 (i := 25) rfl rfl
abbrev ww_77 : Cond := .methodLink RX2 69 yX10_nextMonth
theorem wi_77 : ww_77 ∈ mj_tb := mj_t5 (i := 30) rfl rfl
abbrev ww_78 : Cond := .methodLink RX2 84 yX10_leakFrom
theorem wi_78 : ww_78 ∈ mj_tb := mj_t5 (i := 31) rfl rfl
abbrev ww_79 : Cond := .fieldLink RX2 52 "RentRiver$Plain" "towns" "I"
theorem wi_79 : ww_79 ∈ mj_tb := mj_t1 (i := 113) rfl rfl
abbrev ww_80 : Cond := .methodLink RX2 73 yX2_asTold
theorem wi_80 : ww_80 ∈ mj_tb := mj_t5 (i := 35) rfl rfl
abbrev ww_81 : Cond := .methodLink RX2 3 objectInit
theorem wi_81 : ww_81 ∈ mj_tb := mj_t2 (i := 185) rfl rfl
abbrev ww_82 : Cond := .classLink RX2 11 "[[I"
theorem wi_82 : ww_82 ∈ mj_tb := mj_t2 (i := 186) rfl rfl
abbrev ww_83 : Cond := .fieldLink RX2 13 "RentRiver$Leaks" "found" "[[I"
theorem wi_83 : ww_83 ∈ mj_tb := mj_t2 (i := 189) rfl rfl
abbrev ww_84 : Cond := .fieldLink RX2 16 "RentRiver$Leaks" "kept" "I"
theorem wi_84 : ww_84 ∈ mj_tb := mj_t2 (i := 191) rfl rfl
abbrev ww_85 : Cond := .fieldLink RX2 20 "RentRiver$Leaks" "all" "I"
theorem wi_85 : ww_85 ∈ mj_tb := mj_t2 (i := 193) rfl rfl
abbrev ww_86 : Cond := .arrayClass .boolean
theorem wi_86 : ww_86 ∈ mj_tb := mj_t1 (i := 228) rfl rfl
abbrev ww_87 : Cond := .classLink RX2 33 RX10
theorem wi_87 : ww_87 ∈ mj_tb := mj_t2 (i := 187) rfl rfl
abbrev ww_88 : Cond := .instantiable RX10 15
theorem wi_88 : ww_88 ∈ mj_tb := mj_t1 (i := 230) rfl rfl
abbrev ww_89 : Cond := .initialized RX10
theorem wi_89 : ww_89 ∈ mj_tb := mj_t1 (i := 7) rfl rfl
abbrev ww_90 : Cond := .methodLink RX2 35 yX10_init
theorem wi_90 : ww_90 ∈ mj_tb := mj_t2 (i := 188) rfl rfl
abbrev ww_91 : Cond := .methodLink RX10 3 objectInit
theorem wi_91 : ww_91 ∈ mj_tb := mj_t1 (i := 234) rfl rfl
abbrev ww_92 : Cond := .fieldLink RX10 9 "RentRiver$Year" "running" "Z"
theorem wi_92 : ww_92 ∈ mj_tb := mj_t1 (i := 236) rfl rfl
abbrev ww_93 : Cond := .fieldLink RX10 15 "RentRiver$Year" "months" "I"
theorem wi_93 : ww_93 ∈ mj_tb := mj_t1 (i := 238) rfl rfl
abbrev ww_94 : Cond := .fieldLink RX10 19 "RentRiver$Year" "treasury" "I"
theorem wi_94 : ww_94 ∈ mj_tb := mj_t2 (i := 1) rfl rfl
abbrev ww_95 : Cond := .fieldLink RX10 22 "RentRiver$Year" "letTo" "[I"
theorem wi_95 : ww_95 ∈ mj_tb := mj_t2 (i := 3) rfl rfl
abbrev ww_96 : Cond := .fieldLink RX10 26 "RentRiver$Year" "letAlso" "[I"
theorem wi_96 : ww_96 ∈ mj_tb := mj_t2 (i := 5) rfl rfl
abbrev ww_97 : Cond := .fieldLink RX10 29 "RentRiver$Year" "letFor" "[I"
theorem wi_97 : ww_97 ∈ mj_tb := mj_t2 (i := 7) rfl rfl
abbrev ww_98 : Cond := .classLink RX10 32 "[[I"
theorem wi_98 : ww_98 ∈ mj_tb := mj_t1 (i := 235) rfl rfl
abbrev ww_99 : Cond := .fieldLink RX10 34 "RentRiver$Year" "of" "[[I"
theorem wi_99 : ww_99 ∈ mj_tb := mj_t2 (i := 9) rfl rfl
abbrev ww_100 : Cond := .fieldLink RX10 37 "RentRiver$Year" "lies" "I"
theorem wi_100 : ww_100 ∈ mj_tb := mj_t2 (i := 13) rfl rfl
abbrev ww_101 : Cond := .fieldLink RX10 40 "RentRiver$Year" "fish" "I"
theorem wi_101 : ww_101 ∈ mj_tb := mj_t2 (i := 14) rfl rfl
abbrev ww_102 : Cond := .fieldLink RX10 43 "RentRiver$Year" "rained" "I"
theorem wi_102 : ww_102 ∈ mj_tb := mj_t2 (i := 15) rfl rfl
abbrev ww_103 : Cond := .fieldLink RX10 46 "RentRiver$Year" "used" "I"
theorem wi_103 : ww_103 ∈ mj_tb := mj_t2 (i := 16) rfl rfl
abbrev ww_104 : Cond := .fieldLink RX10 49 "RentRiver$Year" "seeped" "I"
theorem wi_104 : ww_104 ∈ mj_tb := mj_t2 (i := 17) rfl rfl
abbrev ww_105 : Cond := .fieldLink RX10 52 "RentRiver$Year" "atSea" "I"
theorem wi_105 : ww_105 ∈ mj_tb := mj_t2 (i := 18) rfl rfl
abbrev ww_106 : Cond := .fieldLink RX10 55 "RentRiver$Year" "lettings" "I"
theorem wi_106 : ww_106 ∈ mj_tb := mj_t2 (i := 19) rfl rfl
abbrev ww_107 : Cond := .fieldLink RX10 58 "RentRiver$Year" "moves" "I"
theorem wi_107 : ww_107 ∈ mj_tb := mj_t2 (i := 20) rfl rfl
abbrev ww_108 : Cond := .fieldLink RX2 43 "RentRiver$Tape" "size" "I"
theorem wi_108 : ww_108 ∈ mj_tb := mj_t1 (i := 37) rfl rfl
abbrev ww_109 : Cond := .methodLink RX2 48 yX7_valueAt
theorem wi_109 : ww_109 ∈ mj_tb := mj_t5 (i := 15) rfl rfl
abbrev ww_110 : Cond := .methodLink RX2 57 yX10_start
theorem wi_110 : ww_110 ∈ mj_tb := mj_t5 (i := 20) rfl rfl
abbrev ww_111 : Cond := .methodLink RX2 61 yX2_comesBy
theorem wi_111 : ww_111 ∈ mj_tb := mj_t5 (i := 21) rfl rfl
abbrev ww_112 : Cond := .methodLink RX2 65 yX2_keep
theorem wi_112 : ww_112 ∈ mj_tb := mj_t5 (i := 39) rfl rfl
abbrev ww_113 : Cond := .fieldLink RX3 9 "RentRiver$Plain" "names" "[J"
theorem wi_113 : ww_113 ∈ mj_tb := mj_t1 (i := 98) rfl rfl
abbrev ww_114 : Cond := .fieldLink RX3 46 "RentRiver$Plain" "toldOf" "[I"
theorem wi_114 : ww_114 ∈ mj_tb := mj_t1 (i := 132) rfl rfl
abbrev ww_115 : Cond := .fieldLink RX3 17 "RentRiver$Plain" "told" "[[I"
theorem wi_115 : ww_115 ∈ mj_tb := mj_t1 (i := 100) rfl rfl
abbrev ww_116 : Cond := .fieldLink RX3 20 "RentRiver$Plain" "bids" "[[I"
theorem wi_116 : ww_116 ∈ mj_tb := mj_t1 (i := 104) rfl rfl
abbrev ww_117 : Cond := .fieldLink RX3 23 "RentRiver$Plain" "water" "[I"
theorem wi_117 : ww_117 ∈ mj_tb := mj_t1 (i := 108) rfl rfl
abbrev ww_118 : Cond := .fieldLink RX3 27 "RentRiver$Plain" "towns" "I"
theorem wi_118 : ww_118 ∈ mj_tb := mj_t1 (i := 111) rfl rfl
abbrev ww_119 : Cond := .fieldLink RX3 31 "RentRiver$Plain" "bidCount" "I"
theorem wi_119 : ww_119 ∈ mj_tb := mj_t1 (i := 117) rfl rfl
abbrev ww_120 : Cond := .fieldLink RX3 34 "RentRiver$Plain" "move" "I"
theorem wi_120 : ww_120 ∈ mj_tb := mj_t1 (i := 119) rfl rfl
abbrev ww_121 : Cond := .fieldLink RX3 37 "RentRiver$Plain" "fish" "I"
theorem wi_121 : ww_121 ∈ mj_tb := mj_t1 (i := 123) rfl rfl
abbrev ww_122 : Cond := .fieldLink RX3 40 "RentRiver$Plain" "patience" "I"
theorem wi_122 : ww_122 ∈ mj_tb := mj_t1 (i := 126) rfl rfl
abbrev ww_123 : Cond := .fieldLink RX3 49 "RentRiver$Plain" "toldWater" "I"
theorem wi_123 : ww_123 ∈ mj_tb := mj_t1 (i := 133) rfl rfl
abbrev ww_124 : Cond := .fieldLink RX3 52 "RentRiver$Plain" "toldMove" "Z"
theorem wi_124 : ww_124 ∈ mj_tb := mj_t1 (i := 134) rfl rfl
abbrev ww_125 : Cond := .fieldLink RX3 56 "RentRiver$Plain" "toldFish" "Z"
theorem wi_125 : ww_125 ∈ mj_tb := mj_t1 (i := 135) rfl rfl
abbrev ww_126 : Cond := .fieldLink RX3 59 "RentRiver$Plain" "toldPatience" "Z"
theorem wi_126 : ww_126 ∈ mj_tb := mj_t1 (i := 136) rfl rfl
abbrev ww_127 : Cond := .methodLink RX3 62 arraycopyName
theorem wi_127 : ww_127 ∈ mj_tb := mj_t5 (i := 114) rfl rfl
abbrev ww_128 : Cond := .fieldLink RX3 43 "RentRiver$Plain" "serial" "I"
theorem wi_128 : ww_128 ∈ mj_tb := mj_t1 (i := 129) rfl rfl
abbrev ww_129 : Cond := .methodLink RX3 68 Lib.Math.max.name
theorem wi_129 : ww_129 ∈ mj_tb := mj_t4 (i := 154) rfl rfl
abbrev ww_130 : Cond := .methodLink RX3 3 objectInit
theorem wi_130 : ww_130 ∈ mj_tb := mj_t1 (i := 95) rfl rfl
abbrev ww_131 : Cond := .arrayClass .long
theorem wi_131 : ww_131 ∈ mj_tb := mj_t1 (i := 168) rfl rfl
abbrev ww_132 : Cond := .classLink RX3 15 "[[I"
theorem wi_132 : ww_132 ∈ mj_tb := mj_t1 (i := 96) rfl rfl
abbrev ww_133 : Cond := .methodLink RX3 74 yX7_advance
theorem wi_133 : ww_133 ∈ mj_tb := mj_t3 (i := 53) rfl rfl
abbrev ww_134 : Cond := .methodLink RX3 160 yX3_townHere
theorem wi_134 : ww_134 ∈ mj_tb := mj_t3 (i := 127) rfl rfl
abbrev ww_135 : Cond := .methodLink RX3 164 yX3_nextTown
theorem wi_135 : ww_135 ∈ mj_tb := mj_t3 (i := 123) rfl rfl
abbrev ww_136 : Cond := .fieldLink RX3 171 "RentRiver$Word" "what" "I"
theorem wi_136 : ww_136 ∈ mj_tb := mj_t8 (i := 238) rfl rfl
abbrev ww_137 : Cond := .methodLink RX3 98 yX7_refuse
theorem wi_137 : ww_137 ∈ mj_tb := mj_t3 (i := 83) rfl rfl
abbrev ww_138 : Cond := .fieldLink RX3 174 "RentRiver$Word" "NEEDS" "LRentRiver$Word;"
theorem wi_138 : ww_138 ∈ mj_tb := mj_t3 (i := 151) rfl rfl
abbrev ww_139 : Cond := .methodLink RX3 157 yX7_nextNumber
theorem wi_139 : ww_139 ∈ mj_tb := mj_t3 (i := 102) rfl rfl
abbrev ww_140 : Cond := .fieldLink RX3 177 "RentRiver$Word" "FIELDS" "LRentRiver$Word;"
theorem wi_140 : ww_140 ∈ mj_tb := mj_t3 (i := 152) rfl rfl
abbrev ww_141 : Cond := .methodLink RX3 167 yX3_setBid
theorem wi_141 : ww_141 ∈ mj_tb := mj_t3 (i := 131) rfl rfl
abbrev ww_142 : Cond := .fieldLink RX3 94 "RentRiver$Tape" "word" "LRentRiver$Word;"
theorem wi_142 : ww_142 ∈ mj_tb := mj_t1 (i := 55) rfl rfl
abbrev ww_143 : Cond := .fieldLink RX3 101 "RentRiver$Word" "TOWN" "LRentRiver$Word;"
theorem wi_143 : ww_143 ∈ mj_tb := mj_t3 (i := 87) rfl rfl
abbrev ww_144 : Cond := .methodLink RX3 106 yX3_readTown
theorem wi_144 : ww_144 ∈ mj_tb := mj_t3 (i := 89) rfl rfl
abbrev ww_145 : Cond := .fieldLink RX3 109 "RentRiver$Word" "WATER" "LRentRiver$Word;"
theorem wi_145 : ww_145 ∈ mj_tb := mj_t3 (i := 111) rfl rfl
abbrev ww_146 : Cond := .methodLink RX3 112 yX3_readWater
theorem wi_146 : ww_146 ∈ mj_tb := mj_t3 (i := 113) rfl rfl
abbrev ww_147 : Cond := .fieldLink RX3 115 "RentRiver$Word" "BID" "LRentRiver$Word;"
theorem wi_147 : ww_147 ∈ mj_tb := mj_t3 (i := 117) rfl rfl
abbrev ww_148 : Cond := .methodLink RX3 118 yX3_readBid
theorem wi_148 : ww_148 ∈ mj_tb := mj_t3 (i := 119) rfl rfl
abbrev ww_149 : Cond := .methodLink RX3 121 yX9_isAboutTown
theorem wi_149 : ww_149 ∈ mj_tb := mj_t3 (i := 135) rfl rfl
abbrev ww_150 : Cond := .methodLink RX3 124 yX3_readAboutTown
theorem wi_150 : ww_150 ∈ mj_tb := mj_t3 (i := 147) rfl rfl
abbrev ww_151 : Cond := .fieldLink RX3 128 "RentRiver$Word" "MOVE" "LRentRiver$Word;"
theorem wi_151 : ww_151 ∈ mj_tb := mj_t3 (i := 153) rfl rfl
abbrev ww_152 : Cond := .methodLink RX3 131 yX3_readMove
theorem wi_152 : ww_152 ∈ mj_tb := mj_t3 (i := 155) rfl rfl
abbrev ww_153 : Cond := .fieldLink RX3 134 "RentRiver$Word" "FISH" "LRentRiver$Word;"
theorem wi_153 : ww_153 ∈ mj_tb := mj_t3 (i := 159) rfl rfl
abbrev ww_154 : Cond := .methodLink RX3 137 yX3_readFish
theorem wi_154 : ww_154 ∈ mj_tb := mj_t3 (i := 161) rfl rfl
abbrev ww_155 : Cond := .fieldLink RX3 140 "RentRiver$Word" "PATIENCE" "LRentRiver$Word;"
theorem wi_155 : ww_155 ∈ mj_tb := mj_t3 (i := 165) rfl rfl
abbrev ww_156 : Cond := .methodLink RX3 143 yX3_readPatience
theorem wi_156 : ww_156 ∈ mj_tb := mj_t3 (i := 167) rfl rfl
abbrev ww_157 : Cond := .fieldLink RX3 79 "RentRiver$Tape" "kind" "I"
theorem wi_157 : ww_157 ∈ mj_tb := mj_t1 (i := 45) rfl rfl
abbrev ww_158 : Cond := .methodLink RX3 82 yX3_readRow
theorem wi_158 : ww_158 ∈ mj_tb := mj_t3 (i := 79) rfl rfl
abbrev ww_159 : Cond := .methodLink RX3 86 yX7_nextSign
theorem wi_159 : ww_159 ∈ mj_tb := mj_t3 (i := 171) rfl rfl
abbrev ww_160 : Cond := .methodLink RX3 90 yX7_finish
theorem wi_160 : ww_160 ∈ mj_tb := mj_t3 (i := 179) rfl rfl
abbrev ww_161 : Cond := .methodLink RX3 146 yX7_nameHere
theorem wi_161 : ww_161 ∈ mj_tb := mj_t3 (i := 93) rfl rfl
abbrev ww_162 : Cond := .fieldLink RX3 149 "RentRiver$Tape" "code" "J"
theorem wi_162 : ww_162 ∈ mj_tb := mj_t1 (i := 51) rfl rfl
abbrev ww_163 : Cond := .methodLink RX3 153 yX3_find
theorem wi_163 : ww_163 ∈ mj_tb := mj_t3 (i := 98) rfl rfl
abbrev ww_164 : Cond := .fieldLink RX4 9 "RentRiver$Rounds" "done" "Z"
theorem wi_164 : ww_164 ∈ mj_tb := mj_t2 (i := 164) rfl rfl
abbrev ww_165 : Cond := .fieldLink RX4 15 "RentRiver$Rounds" "monthOf" "[I"
theorem wi_165 : ww_165 ∈ mj_tb := mj_t2 (i := 166) rfl rfl
abbrev ww_166 : Cond := .fieldLink RX4 19 "RentRiver$Rounds" "prices" "[I"
theorem wi_166 : ww_166 ∈ mj_tb := mj_t2 (i := 168) rfl rfl
abbrev ww_167 : Cond := .fieldLink RX4 22 "RentRiver$Rounds" "owner" "[I"
theorem wi_167 : ww_167 ∈ mj_tb := mj_t2 (i := 170) rfl rfl
abbrev ww_168 : Cond := .methodLink RX4 3 objectInit
theorem wi_168 : ww_168 ∈ mj_tb := mj_t2 (i := 163) rfl rfl
abbrev ww_169 : Cond := .methodLink RX4 25 yX4_clear
theorem wi_169 : ww_169 ∈ mj_tb := mj_t4 (i := 227) rfl rfl
abbrev ww_170 : Cond := .fieldLink RX4 28 "RentRiver$Plain" "towns" "I"
theorem wi_170 : ww_170 ∈ mj_tb := mj_t1 (i := 112) rfl rfl
abbrev ww_171 : Cond := .methodLink RX4 34 yX4_takeBest
theorem wi_171 : ww_171 ∈ mj_tb := mj_t4 (i := 231) rfl rfl
abbrev ww_172 : Cond := .fieldLink RX4 38 "RentRiver$Plain" "bids" "[[I"
theorem wi_172 : ww_172 ∈ mj_tb := mj_t1 (i := 105) rfl rfl
abbrev ww_173 : Cond := .methodLink RX4 42 yX4_priceNow
theorem wi_173 : ww_173 ∈ mj_tb := mj_t4 (i := 235) rfl rfl
abbrev ww_174 : Cond := .fieldLink RX5 28 "RentRiver$Sentence" "size" "I"
theorem wi_174 : ww_174 ∈ mj_tb := mj_t1 (i := 212) rfl rfl
abbrev ww_175 : Cond := .fieldLink RX5 13 "RentRiver$Sentence" "steps" "[LRentRiver$Word;"
theorem wi_175 : ww_175 ∈ mj_tb := mj_t1 (i := 208) rfl rfl
abbrev ww_176 : Cond := .fieldLink RX5 17 "RentRiver$Sentence" "signs" "[I"
theorem wi_176 : ww_176 ∈ mj_tb := mj_t1 (i := 209) rfl rfl
abbrev ww_177 : Cond := .fieldLink RX5 21 "RentRiver$Sentence" "numbers" "[I"
theorem wi_177 : ww_177 ∈ mj_tb := mj_t1 (i := 210) rfl rfl
abbrev ww_178 : Cond := .fieldLink RX5 83 "RentRiver$Word" "NOT" "LRentRiver$Word;"
theorem wi_178 : ww_178 ∈ mj_tb := mj_t5 (i := 162) rfl rfl
abbrev ww_179 : Cond := .fieldLink RX5 86 "RentRiver$Word" "SHORES" "LRentRiver$Word;"
theorem wi_179 : ww_179 ∈ mj_tb := mj_t5 (i := 164) rfl rfl
abbrev ww_180 : Cond := .fieldLink RX5 89 "RentRiver$Word" "THIRSTY" "LRentRiver$Word;"
theorem wi_180 : ww_180 ∈ mj_tb := mj_t5 (i := 166) rfl rfl
abbrev ww_181 : Cond := .methodLink RX5 96 yX9_isMeasure
theorem wi_181 : ww_181 ∈ mj_tb := mj_t5 (i := 168) rfl rfl
abbrev ww_182 : Cond := .fieldLink RX5 32 "RentRiver$Sentence" "ones" "I"
theorem wi_182 : ww_182 ∈ mj_tb := mj_t1 (i := 213) rfl rfl
abbrev ww_183 : Cond := .fieldLink RX5 24 "RentRiver$Sentence" "stack" "[Z"
theorem wi_183 : ww_183 ∈ mj_tb := mj_t1 (i := 211) rfl rfl
abbrev ww_184 : Cond := .fieldLink RX5 65 "RentRiver$Word" "AND" "LRentRiver$Word;"
theorem wi_184 : ww_184 ∈ mj_tb := mj_t5 (i := 200) rfl rfl
abbrev ww_185 : Cond := .fieldLink RX5 55 "RentRiver$Word" "OR" "LRentRiver$Word;"
theorem wi_185 : ww_185 ∈ mj_tb := mj_t5 (i := 202) rfl rfl
abbrev ww_186 : Cond := .methodLink RX5 106 yX5_holdsOne
theorem wi_186 : ww_186 ∈ mj_tb := mj_t5 (i := 213) rfl rfl
abbrev ww_187 : Cond := .fieldLink RX5 110 "RentRiver$Year" "of" "[[I"
theorem wi_187 : ww_187 ∈ mj_tb := mj_t2 (i := 11) rfl rfl
abbrev ww_188 : Cond := .methodLink RX5 116 yX10_lacks
theorem wi_188 : ww_188 ∈ mj_tb := mj_t5 (i := 217) rfl rfl
abbrev ww_189 : Cond := .fieldLink RX5 120 "RentRiver$Word" "what" "I"
theorem wi_189 : ww_189 ∈ mj_tb := mj_t9 (i := 0) rfl rfl
abbrev ww_190 : Cond := .methodLink RX5 5 objectInit
theorem wi_190 : ww_190 ∈ mj_tb := mj_t1 (i := 205) rfl rfl
abbrev ww_191 : Cond := .classLink RX5 11 "RentRiver$Word"
theorem wi_191 : ww_191 ∈ mj_tb := mj_t1 (i := 206) rfl rfl
abbrev ww_192 : Cond := .methodLink RX5 62 yX5_readOne
theorem wi_192 : ww_192 ∈ mj_tb := mj_t5 (i := 154) rfl rfl
abbrev ww_193 : Cond := .fieldLink RX5 51 "RentRiver$Tape" "word" "LRentRiver$Word;"
theorem wi_193 : ww_193 ∈ mj_tb := mj_t1 (i := 53) rfl rfl
abbrev ww_194 : Cond := .methodLink RX5 35 yX7_advance
theorem wi_194 : ww_194 ∈ mj_tb := mj_t5 (i := 145) rfl rfl
abbrev ww_195 : Cond := .methodLink RX5 58 yX5_add
theorem wi_195 : ww_195 ∈ mj_tb := mj_t5 (i := 191) rfl rfl
abbrev ww_196 : Cond := .methodLink RX5 68 yX7_isSign
theorem wi_196 : ww_196 ∈ mj_tb := mj_t5 (i := 158) rfl rfl
abbrev ww_197 : Cond := .methodLink RX5 76 yX7_refuse
theorem wi_197 : ww_197 ∈ mj_tb := mj_t5 (i := 186) rfl rfl
abbrev ww_198 : Cond := .methodLink RX5 48 yX5_readAll
theorem wi_198 : ww_198 ∈ mj_tb := mj_t5 (i := 150) rfl rfl
abbrev ww_199 : Cond := .fieldLink RX5 99 "RentRiver$Tape" "sign" "I"
theorem wi_199 : ww_199 ∈ mj_tb := mj_t1 (i := 49) rfl rfl
abbrev ww_200 : Cond := .methodLink RX5 102 yX7_nextNumber
theorem wi_200 : ww_200 ∈ mj_tb := mj_t5 (i := 199) rfl rfl
abbrev ww_201 : Cond := .methodLink RX5 72 yX5_begins
theorem wi_201 : ww_201 ∈ mj_tb := mj_t5 (i := 159) rfl rfl
abbrev ww_202 : Cond := .methodLink RX5 40 yX5_readCond
theorem wi_202 : ww_202 ∈ mj_tb := mj_t5 (i := 146) rfl rfl
abbrev ww_203 : Cond := .methodLink RX5 79 yX5_readClosing
theorem wi_203 : ww_203 ∈ mj_tb := mj_t5 (i := 187) rfl rfl
abbrev ww_204 : Cond := .methodLink RX5 92 yX5_readMeasure
theorem wi_204 : ww_204 ∈ mj_tb := mj_t5 (i := 195) rfl rfl
abbrev ww_205 : Cond := .methodLink RX5 44 yX7_finish
theorem wi_205 : ww_205 ∈ mj_tb := mj_t5 (i := 204) rfl rfl
abbrev ww_206 : Cond := .fieldLink RX6 10 "RentRiver$State" "plain" "LRentRiver$Plain;"
theorem wi_206 : ww_206 ∈ mj_tb := mj_t2 (i := 52) rfl rfl
abbrev ww_207 : Cond := .methodLink RX6 37 yX3_copy
theorem wi_207 : ww_207 ∈ mj_tb := mj_t5 (i := 226) rfl rfl
abbrev ww_208 : Cond := .fieldLink RX6 19 "RentRiver$State" "deals" "LRentRiver$Contracts;"
theorem wi_208 : ww_208 ∈ mj_tb := mj_t2 (i := 54) rfl rfl
abbrev ww_209 : Cond := .methodLink RX6 41 yX1_copy
theorem wi_209 : ww_209 ∈ mj_tb := mj_t5 (i := 227) rfl rfl
abbrev ww_210 : Cond := .fieldLink RX6 26 "RentRiver$State" "sentence" "LRentRiver$Sentence;"
theorem wi_210 : ww_210 ∈ mj_tb := mj_t2 (i := 56) rfl rfl
abbrev ww_211 : Cond := .methodLink RX6 44 yX5_copy
theorem wi_211 : ww_211 ∈ mj_tb := mj_t5 (i := 232) rfl rfl
abbrev ww_212 : Cond := .fieldLink RX6 33 "RentRiver$State" "year" "LRentRiver$Year;"
theorem wi_212 : ww_212 ∈ mj_tb := mj_t2 (i := 58) rfl rfl
abbrev ww_213 : Cond := .methodLink RX6 47 yX10_copy
theorem wi_213 : ww_213 ∈ mj_tb := mj_t5 (i := 236) rfl rfl
abbrev ww_214 : Cond := .methodLink RX6 1 objectInit
theorem wi_214 : ww_214 ∈ mj_tb := mj_t1 (i := 89) rfl rfl
abbrev ww_215 : Cond := .classLink RX6 7 RX3
theorem wi_215 : ww_215 ∈ mj_tb := mj_t1 (i := 90) rfl rfl
abbrev ww_216 : Cond := .instantiable RX3 15
theorem wi_216 : ww_216 ∈ mj_tb := mj_t1 (i := 91) rfl rfl
abbrev ww_217 : Cond := .initialized RX3
theorem wi_217 : ww_217 ∈ mj_tb := mj_t1 (i := 4) rfl rfl
abbrev ww_218 : Cond := .methodLink RX6 9 yX3_init
theorem wi_218 : ww_218 ∈ mj_tb := mj_t1 (i := 92) rfl rfl
abbrev ww_219 : Cond := .classLink RX6 16 RX1
theorem wi_219 : ww_219 ∈ mj_tb := mj_t1 (i := 170) rfl rfl
abbrev ww_220 : Cond := .instantiable RX1 4
theorem wi_220 : ww_220 ∈ mj_tb := mj_t1 (i := 171) rfl rfl
abbrev ww_221 : Cond := .initialized RX1
theorem wi_221 : ww_221 ∈ mj_tb := mj_t1 (i := 5) rfl rfl
abbrev ww_222 : Cond := .methodLink RX6 18 yX1_init
theorem wi_222 : ww_222 ∈ mj_tb := mj_t1 (i := 172) rfl rfl
abbrev ww_223 : Cond := .classLink RX6 23 RX5
theorem wi_223 : ww_223 ∈ mj_tb := mj_t1 (i := 200) rfl rfl
abbrev ww_224 : Cond := .instantiable RX5 6
theorem wi_224 : ww_224 ∈ mj_tb := mj_t1 (i := 201) rfl rfl
abbrev ww_225 : Cond := .initialized RX5
theorem wi_225 : ww_225 ∈ mj_tb := mj_t1 (i := 6) rfl rfl
abbrev ww_226 : Cond := .methodLink RX6 25 yX5_init
theorem wi_226 : ww_226 ∈ mj_tb := mj_t1 (i := 202) rfl rfl
abbrev ww_227 : Cond := .classLink RX6 30 RX10
theorem wi_227 : ww_227 ∈ mj_tb := mj_t1 (i := 229) rfl rfl
abbrev ww_228 : Cond := .methodLink RX6 32 yX10_init
theorem wi_228 : ww_228 ∈ mj_tb := mj_t1 (i := 231) rfl rfl
abbrev ww_229 : Cond := .fieldLink RX7 15 "RentRiver$Tape" "size" "I"
theorem wi_229 : ww_229 ∈ mj_tb := mj_t1 (i := 36) rfl rfl
abbrev ww_230 : Cond := .fieldLink RX7 45 "RentRiver$Tape" "most" "I"
theorem wi_230 : ww_230 ∈ mj_tb := mj_t1 (i := 56) rfl rfl
abbrev ww_231 : Cond := .methodLink RX7 51 Lib.Math.min.name
theorem wi_231 : ww_231 ∈ mj_tb := mj_t3 (i := 57) rfl rfl
abbrev ww_232 : Cond := .fieldLink RX7 48 "RentRiver$Tape" "here" "I"
theorem wi_232 : ww_232 ∈ mj_tb := mj_t1 (i := 57) rfl rfl
abbrev ww_233 : Cond := .methodLink RX7 57 yX7_valueAt
theorem wi_233 : ww_233 ∈ mj_tb := mj_t3 (i := 60) rfl rfl
abbrev ww_234 : Cond := .fieldLink RX7 41 "RentRiver$Tape" "word" "LRentRiver$Word;"
theorem wi_234 : ww_234 ∈ mj_tb := mj_t1 (i := 52) rfl rfl
abbrev ww_235 : Cond := .fieldLink RX7 37 "RentRiver$Tape" "code" "J"
theorem wi_235 : ww_235 ∈ mj_tb := mj_t1 (i := 50) rfl rfl
abbrev ww_236 : Cond := .fieldLink RX7 31 "RentRiver$Tape" "number" "I"
theorem wi_236 : ww_236 ∈ mj_tb := mj_t1 (i := 47) rfl rfl
abbrev ww_237 : Cond := .fieldLink RX7 34 "RentRiver$Tape" "sign" "I"
theorem wi_237 : ww_237 ∈ mj_tb := mj_t1 (i := 48) rfl rfl
abbrev ww_238 : Cond := .fieldLink RX7 25 "RentRiver$Tape" "kind" "I"
theorem wi_238 : ww_238 ∈ mj_tb := mj_t1 (i := 43) rfl rfl
abbrev ww_239 : Cond := .fieldLink RX7 28 "RentRiver$Tape" "start" "I"
theorem wi_239 : ww_239 ∈ mj_tb := mj_t1 (i := 46) rfl rfl
abbrev ww_240 : Cond := .methodLink RX7 61 yX7_isLetter
theorem wi_240 : ww_240 ∈ mj_tb := mj_t3 (i := 64) rfl rfl
abbrev ww_241 : Cond := .methodLink RX7 65 yX7_isDigit
theorem wi_241 : ww_241 ∈ mj_tb := mj_t3 (i := 67) rfl rfl
abbrev ww_242 : Cond := .methodLink RX7 68 yX7_readRun
theorem wi_242 : ww_242 ∈ mj_tb := mj_t3 (i := 70) rfl rfl
abbrev ww_243 : Cond := .methodLink RX7 77 yX7_refuse
theorem wi_243 : ww_243 ∈ mj_tb := mj_t3 (i := 97) rfl rfl
abbrev ww_244 : Cond := .methodLink RX7 3 objectInit
theorem wi_244 : ww_244 ∈ mj_tb := mj_t1 (i := 34) rfl rfl
abbrev ww_245 : Cond := .arrayClass .byte
theorem wi_245 : ww_245 ∈ mj_tb := mj_t1 (i := 83) rfl rfl
abbrev ww_246 : Cond := .fieldLink RX7 11 "RentRiver$Tape" "bytes" "[B"
theorem wi_246 : ww_246 ∈ mj_tb := mj_t1 (i := 35) rfl rfl
abbrev ww_247 : Cond := .fieldLink RX7 19 "RentRiver$Tape" "fault" "I"
theorem wi_247 : ww_247 ∈ mj_tb := mj_t1 (i := 39) rfl rfl
abbrev ww_248 : Cond := .fieldLink RX7 22 "RentRiver$Tape" "faultAt" "I"
theorem wi_248 : ww_248 ∈ mj_tb := mj_t1 (i := 41) rfl rfl
abbrev ww_249 : Cond := .methodLink RX7 80 yX7_advance
theorem wi_249 : ww_249 ∈ mj_tb := mj_t3 (i := 106) rfl rfl
abbrev ww_250 : Cond := .methodLink RX7 83 yX7_numberHere
theorem wi_250 : ww_250 ∈ mj_tb := mj_t3 (i := 107) rfl rfl
abbrev ww_251 : Cond := .methodLink RX7 86 yX7_isSign
theorem wi_251 : ww_251 ∈ mj_tb := mj_t3 (i := 175) rfl rfl
abbrev ww_252 : Cond := .methodLink RX7 73 yX9_find
theorem wi_252 : ww_252 ∈ mj_tb := mj_t3 (i := 74) rfl rfl
abbrev ww_253 : Cond := .fieldLink RX8 21 "RentRiver$Undo" "size" "I"
theorem wi_253 : ww_253 ∈ mj_tb := mj_t2 (i := 79) rfl rfl
abbrev ww_254 : Cond := .fieldLink RX8 11 "RentRiver$Undo" "towns" "[I"
theorem wi_254 : ww_254 ∈ mj_tb := mj_t2 (i := 76) rfl rfl
abbrev ww_255 : Cond := .fieldLink RX8 15 "RentRiver$Undo" "months" "[I"
theorem wi_255 : ww_255 ∈ mj_tb := mj_t2 (i := 77) rfl rfl
abbrev ww_256 : Cond := .fieldLink RX8 18 "RentRiver$Undo" "before" "[I"
theorem wi_256 : ww_256 ∈ mj_tb := mj_t2 (i := 78) rfl rfl
abbrev ww_257 : Cond := .methodLink RX8 31 yX3_setBid
theorem wi_257 : ww_257 ∈ mj_tb := mj_t3 (i := 227) rfl rfl
abbrev ww_258 : Cond := .methodLink RX8 3 objectInit
theorem wi_258 : ww_258 ∈ mj_tb := mj_t2 (i := 75) rfl rfl
abbrev ww_259 : Cond := .methodLink RX8 25 arraycopyName
theorem wi_259 : ww_259 ∈ mj_tb := mj_t3 (i := 215) rfl rfl
abbrev ww_260 : Cond := .fieldLink RX10 64 "RentRiver$Plain" "told" "[[I"
theorem wi_260 : ww_260 ∈ mj_tb := mj_t1 (i := 101) rfl rfl
abbrev ww_261 : Cond := .methodLink RX10 67 arraycopyName
theorem wi_261 : ww_261 ∈ mj_tb := mj_t5 (i := 29) rfl rfl
abbrev ww_262 : Cond := .constant RX10 81 (1103515245)
theorem wi_262 : ww_262 ∈ mj_tb := mj_t5 (i := 123) rfl rfl
abbrev ww_263 : Cond := .methodLink RX10 77 yX10_nextMonth
theorem wi_263 : ww_263 ∈ mj_tb := mj_t4 (i := 49) rfl rfl
abbrev ww_264 : Cond := .methodLink RX10 159 Lib.Math.min.name
theorem wi_264 : ww_264 ∈ mj_tb := mj_t4 (i := 96) rfl rfl
abbrev ww_265 : Cond := .fieldLink RX10 162 "RentRiver$Plain" "patience" "I"
theorem wi_265 : ww_265 ∈ mj_tb := mj_t1 (i := 127) rfl rfl
abbrev ww_266 : Cond := .methodLink RX10 165 yX10_waterField
theorem wi_266 : ww_266 ∈ mj_tb := mj_t4 (i := 101) rfl rfl
abbrev ww_267 : Cond := .fieldLink RX10 106 "RentRiver$Plain" "towns" "I"
theorem wi_267 : ww_267 ∈ mj_tb := mj_t1 (i := 116) rfl rfl
abbrev ww_268 : Cond := .fieldLink RX10 132 "RentRiver$Plain" "bids" "[[I"
theorem wi_268 : ww_268 ∈ mj_tb := mj_t1 (i := 107) rfl rfl
abbrev ww_269 : Cond := .methodLink RX10 124 yX10_canPay
theorem wi_269 : ww_269 ∈ mj_tb := mj_t4 (i := 58) rfl rfl
abbrev ww_270 : Cond := .methodLink RX10 135 Lib.Math.max.name
theorem wi_270 : ww_270 ∈ mj_tb := mj_t4 (i := 85) rfl rfl
abbrev ww_271 : Cond := .methodLink RX10 128 yX10_pay
theorem wi_271 : ww_271 ∈ mj_tb := mj_t4 (i := 62) rfl rfl
abbrev ww_272 : Cond := .fieldLink RX10 115 "RentRiver$Contracts" "first" "[I"
theorem wi_272 : ww_272 ∈ mj_tb := mj_t1 (i := 181) rfl rfl
abbrev ww_273 : Cond := .fieldLink RX10 118 "RentRiver$Contracts" "second" "[I"
theorem wi_273 : ww_273 ∈ mj_tb := mj_t1 (i := 184) rfl rfl
abbrev ww_274 : Cond := .fieldLink RX10 121 "RentRiver$Contracts" "cost" "[I"
theorem wi_274 : ww_274 ∈ mj_tb := mj_t1 (i := 187) rfl rfl
abbrev ww_275 : Cond := .methodLink RX10 141 yX3_placeOf
theorem wi_275 : ww_275 ∈ mj_tb := mj_t4 (i := 74) rfl rfl
abbrev ww_276 : Cond := .methodLink RX10 145 Lib.Math.abs.name
theorem wi_276 : ww_276 ∈ mj_tb := mj_t4 (i := 78) rfl rfl
abbrev ww_277 : Cond := .fieldLink RX10 148 "RentRiver$Plain" "move" "I"
theorem wi_277 : ww_277 ∈ mj_tb := mj_t1 (i := 121) rfl rfl
abbrev ww_278 : Cond := .methodLink RX10 151 yX10_bridgeTo
theorem wi_278 : ww_278 ∈ mj_tb := mj_t4 (i := 81) rfl rfl
abbrev ww_279 : Cond := .methodLink RX10 82 yX1_tells
theorem wi_279 : ww_279 ∈ mj_tb := mj_t4 (i := 53) rfl rfl
abbrev ww_280 : Cond := .methodLink RX10 88 yX10_letByContract
theorem wi_280 : ww_280 ∈ mj_tb := mj_t4 (i := 54) rfl rfl
abbrev ww_281 : Cond := .methodLink RX10 92 yX10_letByBids
theorem wi_281 : ww_281 ∈ mj_tb := mj_t4 (i := 66) rfl rfl
abbrev ww_282 : Cond := .methodLink RX10 96 yX10_moveRiver
theorem wi_282 : ww_282 ∈ mj_tb := mj_t4 (i := 70) rfl rfl
abbrev ww_283 : Cond := .fieldLink RX10 99 "RentRiver$Plain" "water" "[I"
theorem wi_283 : ww_283 ∈ mj_tb := mj_t1 (i := 109) rfl rfl
abbrev ww_284 : Cond := .methodLink RX10 102 yX10_pour
theorem wi_284 : ww_284 ∈ mj_tb := mj_t4 (i := 88) rfl rfl
abbrev ww_285 : Cond := .methodLink RX10 109 yX10_drink
theorem wi_285 : ww_285 ∈ mj_tb := mj_t4 (i := 97) rfl rfl
abbrev ww_286 : Cond := .methodLink RX10 112 yX10_harvest
theorem wi_286 : ww_286 ∈ mj_tb := mj_t4 (i := 105) rfl rfl
abbrev ww_287 : Cond := .methodLink RX10 73 yX10_inPonds
theorem wi_287 : ww_287 ∈ mj_tb := mj_t4 (i := 117) rfl rfl
abbrev ww_288 : Cond := .methodLink RX10 155 yX10_pourTo
theorem wi_288 : ww_288 ∈ mj_tb := mj_t4 (i := 92) rfl rfl
abbrev ww_289 : Cond := .fieldLink RX10 61 "RentRiver$Plain" "fish" "I"
theorem wi_289 : ww_289 ∈ mj_tb := mj_t1 (i := 124) rfl rfl
abbrev ww_290 : Cond := .fieldLink RX11 19 "RentRiver" "now" "LRentRiver$State;"
theorem wi_290 : ww_290 ∈ mj_tb := mj_t2 (i := 219) rfl rfl
abbrev ww_291 : Cond := .fieldLink RX11 94 "RentRiver$State" "plain" "LRentRiver$Plain;"
theorem wi_291 : ww_291 ∈ mj_tb := mj_t2 (i := 53) rfl rfl
abbrev ww_292 : Cond := .fieldLink RX11 160 "RentRiver$Plain" "towns" "I"
theorem wi_292 : ww_292 ∈ mj_tb := mj_t1 (i := 115) rfl rfl
abbrev ww_293 : Cond := .fieldLink RX11 130 "RentRiver$State" "year" "LRentRiver$Year;"
theorem wi_293 : ww_293 ∈ mj_tb := mj_t2 (i := 59) rfl rfl
abbrev ww_294 : Cond := .methodLink RX11 205 yX10_start
theorem wi_294 : ww_294 ∈ mj_tb := mj_t4 (i := 37) rfl rfl
abbrev ww_295 : Cond := .methodLink RX11 145 yX11_isTown
theorem wi_295 : ww_295 ∈ mj_tb := mj_t3 (i := 200) rfl rfl
abbrev ww_296 : Cond := .methodLink RX11 163 yX11_isMonth
theorem wi_296 : ww_296 ∈ mj_tb := mj_t3 (i := 204) rfl rfl
abbrev ww_297 : Cond := .fieldLink RX11 166 "RentRiver$Plain" "bids" "[[I"
theorem wi_297 : ww_297 ∈ mj_tb := mj_t1 (i := 106) rfl rfl
abbrev ww_298 : Cond := .fieldLink RX11 73 "RentRiver" "textSize" "I"
theorem wi_298 : ww_298 ∈ mj_tb := mj_t2 (i := 229) rfl rfl
abbrev ww_299 : Cond := .fieldLink RX11 69 "RentRiver" "text" "[B"
theorem wi_299 : ww_299 ∈ mj_tb := mj_t2 (i := 228) rfl rfl
abbrev ww_300 : Cond := .fieldLink RX11 44 "RentRiver" "planner" "LRentRiver$Cheapest;"
theorem wi_300 : ww_300 ∈ mj_tb := mj_t2 (i := 224) rfl rfl
abbrev ww_301 : Cond := .methodLink RX11 231 yX0_solve
theorem wi_301 : ww_301 ∈ mj_tb := mj_t4 (i := 137) rfl rfl
abbrev ww_302 : Cond := .fieldLink RX11 10 "RentRiver" "tape" "LRentRiver$Tape;"
theorem wi_302 : ww_302 ∈ mj_tb := mj_t2 (i := 218) rfl rfl
abbrev ww_303 : Cond := .fieldLink RX11 91 "RentRiver$Tape" "size" "I"
theorem wi_303 : ww_303 ∈ mj_tb := mj_t1 (i := 38) rfl rfl
abbrev ww_304 : Cond := .fieldLink RX11 110 "RentRiver$Tape" "fault" "I"
theorem wi_304 : ww_304 ∈ mj_tb := mj_t1 (i := 40) rfl rfl
abbrev ww_305 : Cond := .fieldLink RX11 77 "RentRiver" "latestFault" "I"
theorem wi_305 : ww_305 ∈ mj_tb := mj_t2 (i := 230) rfl rfl
abbrev ww_306 : Cond := .fieldLink RX11 142 "RentRiver$Tape" "faultAt" "I"
theorem wi_306 : ww_306 ∈ mj_tb := mj_t1 (i := 42) rfl rfl
abbrev ww_307 : Cond := .fieldLink RX11 116 "RentRiver$State" "deals" "LRentRiver$Contracts;"
theorem wi_307 : ww_307 ∈ mj_tb := mj_t2 (i := 55) rfl rfl
abbrev ww_308 : Cond := .methodLink RX11 193 yX1_tells
theorem wi_308 : ww_308 ∈ mj_tb := mj_t4 (i := 32) rfl rfl
abbrev ww_309 : Cond := .fieldLink RX11 196 "RentRiver$Contracts" "first" "[I"
theorem wi_309 : ww_309 ∈ mj_tb := mj_t1 (i := 182) rfl rfl
abbrev ww_310 : Cond := .fieldLink RX11 199 "RentRiver$Contracts" "second" "[I"
theorem wi_310 : ww_310 ∈ mj_tb := mj_t1 (i := 185) rfl rfl
abbrev ww_311 : Cond := .fieldLink RX11 202 "RentRiver$Contracts" "cost" "[I"
theorem wi_311 : ww_311 ∈ mj_tb := mj_t1 (i := 188) rfl rfl
abbrev ww_312 : Cond := .fieldLink RX11 23 "RentRiver" "spare" "LRentRiver$State;"
theorem wi_312 : ww_312 ∈ mj_tb := mj_t2 (i := 220) rfl rfl
abbrev ww_313 : Cond := .methodLink RX11 120 yX1_clear
theorem wi_313 : ww_313 ∈ mj_tb := mj_t3 (i := 183) rfl rfl
abbrev ww_314 : Cond := .methodLink RX11 103 yX7_open
theorem wi_314 : ww_314 ∈ mj_tb := mj_t3 (i := 45) rfl rfl
abbrev ww_315 : Cond := .methodLink RX11 187 yX1_readRows
theorem wi_315 : ww_315 ∈ mj_tb := mj_t3 (i := 236) rfl rfl
abbrev ww_316 : Cond := .fieldLink RX11 190 "RentRiver$Contracts" "rows" "I"
theorem wi_316 : ww_316 ∈ mj_tb := mj_t1 (i := 190) rfl rfl
abbrev ww_317 : Cond := .methodLink RX11 138 yX11_closeTape
theorem wi_317 : ww_317 ∈ mj_tb := mj_t3 (i := 188) rfl rfl
abbrev ww_318 : Cond := .fieldLink RX11 169 "RentRiver$Plain" "bidCount" "I"
theorem wi_318 : ww_318 ∈ mj_tb := mj_t1 (i := 118) rfl rfl
abbrev ww_319 : Cond := .fieldLink RX11 340 "RentRiver$Plain" "move" "I"
theorem wi_319 : ww_319 ∈ mj_tb := mj_t1 (i := 122) rfl rfl
abbrev ww_320 : Cond := .fieldLink RX11 343 "RentRiver$Plain" "fish" "I"
theorem wi_320 : ww_320 ∈ mj_tb := mj_t1 (i := 125) rfl rfl
abbrev ww_321 : Cond := .fieldLink RX11 346 "RentRiver$Plain" "patience" "I"
theorem wi_321 : ww_321 ∈ mj_tb := mj_t1 (i := 128) rfl rfl
abbrev ww_322 : Cond := .fieldLink RX11 65 "RentRiver" "trial" "LRentRiver$Year;"
theorem wi_322 : ww_322 ∈ mj_tb := mj_t2 (i := 227) rfl rfl
abbrev ww_323 : Cond := .methodLink RX11 315 yX10_draw
theorem wi_323 : ww_323 ∈ mj_tb := mj_t5 (i := 119) rfl rfl
abbrev ww_324 : Cond := .fieldLink RX11 309 "RentRiver$Year" "treasury" "I"
theorem wi_324 : ww_324 ∈ mj_tb := mj_t2 (i := 2) rfl rfl
abbrev ww_325 : Cond := .fieldLink RX11 133 "RentRiver$Year" "running" "Z"
theorem wi_325 : ww_325 ∈ mj_tb := mj_t1 (i := 237) rfl rfl
abbrev ww_326 : Cond := .fieldLink RX11 209 "RentRiver$Year" "months" "I"
theorem wi_326 : ww_326 ∈ mj_tb := mj_t2 (i := 0) rfl rfl
abbrev ww_327 : Cond := .fieldLink RX11 222 "RentRiver$Year" "letTo" "[I"
theorem wi_327 : ww_327 ∈ mj_tb := mj_t2 (i := 4) rfl rfl
abbrev ww_328 : Cond := .fieldLink RX11 156 "RentRiver$Plain" "told" "[[I"
theorem wi_328 : ww_328 ∈ mj_tb := mj_t1 (i := 103) rfl rfl
abbrev ww_329 : Cond := .methodLink RX11 270 yX11_mostGain
theorem wi_329 : ww_329 ∈ mj_tb := mj_t5 (i := 55) rfl rfl
abbrev ww_330 : Cond := .methodLink RX11 274 yX3_gain
theorem wi_330 : ww_330 ∈ mj_tb := mj_t5 (i := 59) rfl rfl
abbrev ww_331 : Cond := .methodLink RX11 83 yX7_hasRoom
theorem wi_331 : ww_331 ∈ mj_tb := mj_t3 (i := 25) rfl rfl
abbrev ww_332 : Cond := .methodLink RX11 87 yX7_put
theorem wi_332 : ww_332 ∈ mj_tb := mj_t3 (i := 29) rfl rfl
abbrev ww_333 : Cond := .fieldLink RX11 51 "RentRiver" "auction" "LRentRiver$Rounds;"
theorem wi_333 : ww_333 ∈ mj_tb := mj_t2 (i := 225) rfl rfl
abbrev ww_334 : Cond := .fieldLink RX11 251 "RentRiver$Rounds" "done" "Z"
theorem wi_334 : ww_334 ∈ mj_tb := mj_t2 (i := 165) rfl rfl
abbrev ww_335 : Cond := .fieldLink RX11 252 "RentRiver$Rounds" "monthOf" "[I"
theorem wi_335 : ww_335 ∈ mj_tb := mj_t2 (i := 167) rfl rfl
abbrev ww_336 : Cond := .fieldLink RX11 26 "RentRiver" "images" "[LRentRiver$State;"
theorem wi_336 : ww_336 ∈ mj_tb := mj_t2 (i := 221) rfl rfl
abbrev ww_337 : Cond := .methodLink RX11 337 yX6_copy
theorem wi_337 : ww_337 ∈ mj_tb := mj_t5 (i := 222) rfl rfl
abbrev ww_338 : Cond := .fieldLink RX11 30 "RentRiver" "kept" "[Z"
theorem wi_338 : ww_338 ∈ mj_tb := mj_t2 (i := 222) rfl rfl
abbrev ww_339 : Cond := .methodLink RX11 1 objectInit
theorem wi_339 : ww_339 ∈ mj_tb := mj_t1 (i := 26) rfl rfl
abbrev ww_340 : Cond := .classLink RX11 7 RX7
theorem wi_340 : ww_340 ∈ mj_tb := mj_t1 (i := 29) rfl rfl
abbrev ww_341 : Cond := .instantiable RX7 12
theorem wi_341 : ww_341 ∈ mj_tb := mj_t1 (i := 30) rfl rfl
abbrev ww_342 : Cond := .initialized RX7
theorem wi_342 : ww_342 ∈ mj_tb := mj_t1 (i := 2) rfl rfl
abbrev ww_343 : Cond := .methodLink RX11 9 yX7_init
theorem wi_343 : ww_343 ∈ mj_tb := mj_t1 (i := 31) rfl rfl
abbrev ww_344 : Cond := .classLink RX11 16 RX6
theorem wi_344 : ww_344 ∈ mj_tb := mj_t1 (i := 84) rfl rfl
abbrev ww_345 : Cond := .instantiable RX6 4
theorem wi_345 : ww_345 ∈ mj_tb := mj_t1 (i := 85) rfl rfl
abbrev ww_346 : Cond := .initialized RX6
theorem wi_346 : ww_346 ∈ mj_tb := mj_t1 (i := 3) rfl rfl
abbrev ww_347 : Cond := .methodLink RX11 18 yX6_init
theorem wi_347 : ww_347 ∈ mj_tb := mj_t1 (i := 86) rfl rfl
abbrev ww_348 : Cond := .classLink RX11 34 RX8
theorem wi_348 : ww_348 ∈ mj_tb := mj_t2 (i := 70) rfl rfl
abbrev ww_349 : Cond := .instantiable RX8 4
theorem wi_349 : ww_349 ∈ mj_tb := mj_t2 (i := 71) rfl rfl
abbrev ww_350 : Cond := .initialized RX8
theorem wi_350 : ww_350 ∈ mj_tb := mj_t1 (i := 8) rfl rfl
abbrev ww_351 : Cond := .methodLink RX11 36 yX8_init
theorem wi_351 : ww_351 ∈ mj_tb := mj_t2 (i := 72) rfl rfl
abbrev ww_352 : Cond := .fieldLink RX11 37 "RentRiver" "undone" "LRentRiver$Undo;"
theorem wi_352 : ww_352 ∈ mj_tb := mj_t2 (i := 223) rfl rfl
abbrev ww_353 : Cond := .classLink RX11 41 RX0
theorem wi_353 : ww_353 ∈ mj_tb := mj_t2 (i := 90) rfl rfl
abbrev ww_354 : Cond := .instantiable RX0 19
theorem wi_354 : ww_354 ∈ mj_tb := mj_t2 (i := 91) rfl rfl
abbrev ww_355 : Cond := .initialized RX0
theorem wi_355 : ww_355 ∈ mj_tb := mj_t1 (i := 9) rfl rfl
abbrev ww_356 : Cond := .methodLink RX11 43 yX0_init
theorem wi_356 : ww_356 ∈ mj_tb := mj_t2 (i := 92) rfl rfl
abbrev ww_357 : Cond := .classLink RX11 48 RX4
theorem wi_357 : ww_357 ∈ mj_tb := mj_t2 (i := 158) rfl rfl
abbrev ww_358 : Cond := .instantiable RX4 4
theorem wi_358 : ww_358 ∈ mj_tb := mj_t2 (i := 159) rfl rfl
abbrev ww_359 : Cond := .initialized RX4
theorem wi_359 : ww_359 ∈ mj_tb := mj_t1 (i := 10) rfl rfl
abbrev ww_360 : Cond := .methodLink RX11 50 yX4_init
theorem wi_360 : ww_360 ∈ mj_tb := mj_t2 (i := 160) rfl rfl
abbrev ww_361 : Cond := .classLink RX11 55 RX2
theorem wi_361 : ww_361 ∈ mj_tb := mj_t2 (i := 180) rfl rfl
abbrev ww_362 : Cond := .instantiable RX2 8
theorem wi_362 : ww_362 ∈ mj_tb := mj_t2 (i := 181) rfl rfl
abbrev ww_363 : Cond := .initialized RX2
theorem wi_363 : ww_363 ∈ mj_tb := mj_t1 (i := 11) rfl rfl
abbrev ww_364 : Cond := .methodLink RX11 57 yX2_init
theorem wi_364 : ww_364 ∈ mj_tb := mj_t2 (i := 182) rfl rfl
abbrev ww_365 : Cond := .fieldLink RX11 58 "RentRiver" "search" "LRentRiver$Leaks;"
theorem wi_365 : ww_365 ∈ mj_tb := mj_t2 (i := 226) rfl rfl
abbrev ww_366 : Cond := .classLink RX11 62 RX10
theorem wi_366 : ww_366 ∈ mj_tb := mj_t2 (i := 216) rfl rfl
abbrev ww_367 : Cond := .methodLink RX11 64 yX10_init
theorem wi_367 : ww_367 ∈ mj_tb := mj_t2 (i := 217) rfl rfl
abbrev ww_368 : Cond := .fieldLink RX11 80 "RentRiver" "plains" "I"
theorem wi_368 : ww_368 ∈ mj_tb := mj_t2 (i := 231) rfl rfl
abbrev ww_369 : Cond := .fieldLink RX11 265 "RentRiver$Leaks" "kept" "I"
theorem wi_369 : ww_369 ∈ mj_tb := mj_t2 (i := 192) rfl rfl
abbrev ww_370 : Cond := .fieldLink RX11 267 "RentRiver$Leaks" "found" "[[I"
theorem wi_370 : ww_370 ∈ mj_tb := mj_t2 (i := 190) rfl rfl
abbrev ww_371 : Cond := .methodLink RX11 258 yX2_readLevels
theorem wi_371 : ww_371 ∈ mj_tb := mj_t5 (i := 11) rfl rfl
abbrev ww_372 : Cond := .methodLink RX11 262 yX2_run
theorem wi_372 : ww_372 ∈ mj_tb := mj_t5 (i := 16) rfl rfl
abbrev ww_373 : Cond := .fieldLink RX11 225 "RentRiver$Year" "letAlso" "[I"
theorem wi_373 : ww_373 ∈ mj_tb := mj_t2 (i := 6) rfl rfl
abbrev ww_374 : Cond := .fieldLink RX11 228 "RentRiver$Year" "letFor" "[I"
theorem wi_374 : ww_374 ∈ mj_tb := mj_t2 (i := 8) rfl rfl
abbrev ww_375 : Cond := .methodLink RX11 212 yX10_goOn
theorem wi_375 : ww_375 ∈ mj_tb := mj_t4 (i := 45) rfl rfl
abbrev ww_376 : Cond := .methodLink RX11 318 yX10_canPay
theorem wi_376 : ww_376 ∈ mj_tb := mj_t5 (i := 132) rfl rfl
abbrev ww_377 : Cond := .methodLink RX11 322 yX10_leastBid
theorem wi_377 : ww_377 ∈ mj_tb := mj_t5 (i := 133) rfl rfl
abbrev ww_378 : Cond := .methodLink RX11 172 yX8_keep
theorem wi_378 : ww_378 ∈ mj_tb := mj_t3 (i := 211) rfl rfl
abbrev ww_379 : Cond := .methodLink RX11 176 yX3_setBid
theorem wi_379 : ww_379 ∈ mj_tb := mj_t3 (i := 218) rfl rfl
abbrev ww_380 : Cond := .methodLink RX11 98 yX3_clear
theorem wi_380 : ww_380 ∈ mj_tb := mj_t3 (i := 41) rfl rfl
abbrev ww_381 : Cond := .methodLink RX11 106 yX3_readRows
theorem wi_381 : ww_381 ∈ mj_tb := mj_t3 (i := 49) rfl rfl
abbrev ww_382 : Cond := .fieldLink RX11 113 "RentRiver$Plain" "serial" "I"
theorem wi_382 : ww_382 ∈ mj_tb := mj_t1 (i := 131) rfl rfl
abbrev ww_383 : Cond := .fieldLink RX11 123 "RentRiver$State" "sentence" "LRentRiver$Sentence;"
theorem wi_383 : ww_383 ∈ mj_tb := mj_t2 (i := 57) rfl rfl
abbrev ww_384 : Cond := .methodLink RX11 127 yX5_clear
theorem wi_384 : ww_384 ∈ mj_tb := mj_t3 (i := 184) rfl rfl
abbrev ww_385 : Cond := .fieldLink RX11 137 "RentRiver$Undo" "size" "I"
theorem wi_385 : ww_385 ∈ mj_tb := mj_t2 (i := 80) rfl rfl
abbrev ww_386 : Cond := .fieldLink RX11 234 "RentRiver$Cheapest" "done" "Z"
theorem wi_386 : ww_386 ∈ mj_tb := mj_t2 (i := 100) rfl rfl
abbrev ww_387 : Cond := .fieldLink RX11 237 "RentRiver$Cheapest" "plan" "[I"
theorem wi_387 : ww_387 ∈ mj_tb := mj_t2 (i := 98) rfl rfl
abbrev ww_388 : Cond := .fieldLink RX11 255 "RentRiver$Rounds" "prices" "[I"
theorem wi_388 : ww_388 ∈ mj_tb := mj_t2 (i := 169) rfl rfl
abbrev ww_389 : Cond := .methodLink RX11 287 yX11_putByte
theorem wi_389 : ww_389 ∈ mj_tb := mj_t5 (i := 92) rfl rfl
abbrev ww_390 : Cond := .fieldLink RX11 293 "RentRiver$Plain" "names" "[J"
theorem wi_390 : ww_390 ∈ mj_tb := mj_t1 (i := 99) rfl rfl
abbrev ww_391 : Cond := .fieldLink RX11 297 "RentRiver$Word" "SEA" "LRentRiver$Word;"
theorem wi_391 : ww_391 ∈ mj_tb := mj_t5 (i := 100) rfl rfl
abbrev ww_392 : Cond := .fieldLink RX11 303 "RentRiver$Word" "code" "J"
theorem wi_392 : ww_392 ∈ mj_tb := mj_t8 (i := 239) rfl rfl
abbrev ww_393 : Cond := .constantLong RX11 307 (31)
theorem wi_393 : ww_393 ∈ mj_tb := mj_t5 (i := 101) rfl rfl
abbrev ww_394 : Cond := .methodLink RX11 247 yX4_run
theorem wi_394 : ww_394 ∈ mj_tb := mj_t4 (i := 223) rfl rfl
abbrev ww_395 : Cond := .fieldLink RX11 330 "RentRiver$Sentence" "ones" "I"
theorem wi_395 : ww_395 ∈ mj_tb := mj_t1 (i := 214) rfl rfl
abbrev ww_396 : Cond := .methodLink RX11 333 yX5_holds
theorem wi_396 : ww_396 ∈ mj_tb := mj_t5 (i := 209) rfl rfl
abbrev ww_397 : Cond := .methodLink RX11 326 yX5_readText
theorem wi_397 : ww_397 ∈ mj_tb := mj_t5 (i := 141) rfl rfl
abbrev ww_398 : Cond := .fieldLink RX11 219 "RentRiver$Year" "of" "[[I"
theorem wi_398 : ww_398 ∈ mj_tb := mj_t2 (i := 12) rfl rfl
abbrev ww_399 : Cond := .methodLink RX11 277 yX11_tryYear
theorem wi_399 : ww_399 ∈ mj_tb := mj_t5 (i := 64) rfl rfl
abbrev ww_400 : Cond := .fieldLink RX11 240 "RentRiver$Cheapest" "planned" "I"
theorem wi_400 : ww_400 ∈ mj_tb := mj_t2 (i := 102) rfl rfl
abbrev ww_401 : Cond := .methodLink RX11 243 yX1_tell
theorem wi_401 : ww_401 ∈ mj_tb := mj_t4 (i := 218) rfl rfl
abbrev ww_402 : Cond := .methodLink RX11 280 yX10_lacks
theorem wi_402 : ww_402 ∈ mj_tb := mj_t5 (i := 72) rfl rfl
abbrev ww_403 : Cond := .methodLink RX11 179 yX8_back
theorem wi_403 : ww_403 ∈ mj_tb := mj_t3 (i := 223) rfl rfl
abbrev ww_404 : Cond := .fieldLink RX11 183 "RentRiver$Plain" "water" "[I"
theorem wi_404 : ww_404 ∈ mj_tb := mj_t1 (i := 110) rfl rfl
abbrev ww_405 : Cond := .methodLink RX11 312 yX3_copy
theorem wi_405 : ww_405 ∈ mj_tb := mj_t5 (i := 110) rfl rfl
abbrev ww_406 : Cond := .methodLink RX11 284 yX11_putNumber
theorem wi_406 : ww_406 ∈ mj_tb := mj_t5 (i := 88) rfl rfl
abbrev ww_407 : Cond := .methodLink RX11 290 yX11_putTenant
theorem wi_407 : ww_407 ∈ mj_tb := mj_t5 (i := 96) rfl rfl
abbrev ww_408 : Cond := .methodLink RX11 216 yX10_number
theorem wi_408 : ww_408 ∈ mj_tb := mj_t4 (i := 113) rfl rfl
abbrev ww_409 : Cond := .methodLink RX12 333 yX12_begins
theorem wi_409 : ww_409 ∈ mj_tb := mj_t7 (i := 206) rfl rfl
abbrev ww_410 : Cond := .fieldLink RX12 33 "RentRiverModel" "s" "[I"
theorem wi_410 : ww_410 ∈ mj_tb := mj_t6 (i := 130) rfl rfl
abbrev ww_411 : Cond := .methodLink RX12 336 yX12_month
theorem wi_411 : ww_411 ∈ mj_tb := mj_t7 (i := 214) rfl rfl
abbrev ww_412 : Cond := .methodLink RX12 372 yX12_octet
theorem wi_412 : ww_412 ∈ mj_tb := mj_t8 (i := 78) rfl rfl
abbrev ww_413 : Cond := .methodLink RX12 285 yX12_of
theorem wi_413 : ww_413 ∈ mj_tb := mj_t7 (i := 226) rfl rfl
abbrev ww_414 : Cond := .fieldLink RX12 180 "RentRiverModel" "fault" "I"
theorem wi_414 : ww_414 ∈ mj_tb := mj_t6 (i := 139) rfl rfl
abbrev ww_415 : Cond := .fieldLink RX12 157 "RentRiverModel" "at" "I"
theorem wi_415 : ww_415 ∈ mj_tb := mj_t6 (i := 136) rfl rfl
abbrev ww_416 : Cond := .fieldLink RX12 183 "RentRiverModel" "faultAt" "I"
theorem wi_416 : ww_416 ∈ mj_tb := mj_t6 (i := 140) rfl rfl
abbrev ww_417 : Cond := .fieldLink RX12 1 "RentRiverModel" "thrown" "I"
theorem wi_417 : ww_417 ∈ mj_tb := mj_t6 (i := 124) rfl rfl
abbrev ww_418 : Cond := .methodLink RX12 270 yX12_toldOf
theorem wi_418 : ww_418 ∈ mj_tb := mj_t7 (i := 159) rfl rfl
abbrev ww_419 : Cond := .methodLink RX12 427 yX12_nots
theorem wi_419 : ww_419 ∈ mj_tb := mj_t8 (i := 172) rfl rfl
abbrev ww_420 : Cond := .constantLong RX12 131 (6385252)
theorem wi_420 : ww_420 ∈ mj_tb := mj_t6 (i := 113) rfl rfl
abbrev ww_421 : Cond := .methodLink RX12 202 yX12_isWord
theorem wi_421 : ww_421 ∈ mj_tb := mj_t7 (i := 97) rfl rfl
abbrev ww_422 : Cond := .constantLong RX12 129 (28530)
theorem wi_422 : ww_422 ∈ mj_tb := mj_t6 (i := 112) rfl rfl
abbrev ww_423 : Cond := .methodLink RX12 430 yX12_joins
theorem wi_423 : ww_423 ∈ mj_tb := mj_t8 (i := 180) rfl rfl
abbrev ww_424 : Cond := .fieldLink RX12 89 "RentRiverModel" "stack" "[I"
theorem wi_424 : ww_424 ∈ mj_tb := mj_t6 (i := 176) rfl rfl
abbrev ww_425 : Cond := .fieldLink RX12 409 "RentRiverModel" "top" "I"
theorem wi_425 : ww_425 ∈ mj_tb := mj_t6 (i := 179) rfl rfl
abbrev ww_426 : Cond := .fieldLink RX12 424 "RentRiverModel" "isWhole" "Z"
theorem wi_426 : ww_426 ∈ mj_tb := mj_t6 (i := 181) rfl rfl
abbrev ww_427 : Cond := .methodLink RX12 192 yX12_next
theorem wi_427 : ww_427 ∈ mj_tb := mj_t7 (i := 79) rfl rfl
abbrev ww_428 : Cond := .methodLink RX12 186 yX12_isSign
theorem wi_428 : ww_428 ∈ mj_tb := mj_t7 (i := 139) rfl rfl
abbrev ww_429 : Cond := .methodLink RX12 189 yX12_bad
theorem wi_429 : ww_429 ∈ mj_tb := mj_t7 (i := 105) rfl rfl
abbrev ww_430 : Cond := .fieldLink RX12 415 "RentRiverModel" "deep" "I"
theorem wi_430 : ww_430 ∈ mj_tb := mj_t6 (i := 180) rfl rfl
abbrev ww_431 : Cond := .methodLink RX12 263 yX12_isTown
theorem wi_431 : ww_431 ∈ mj_tb := mj_t7 (i := 151) rfl rfl
abbrev ww_432 : Cond := .methodLink RX12 273 yX12_isMonth
theorem wi_432 : ww_432 ∈ mj_tb := mj_t7 (i := 167) rfl rfl
abbrev ww_433 : Cond := .methodLink RX12 276 yX12_bidOf
theorem wi_433 : ww_433 ∈ mj_tb := mj_t7 (i := 170) rfl rfl
abbrev ww_434 : Cond := .fieldLink RX12 391 "RentRiverModel" "textMany" "I"
theorem wi_434 : ww_434 ∈ mj_tb := mj_t6 (i := 175) rfl rfl
abbrev ww_435 : Cond := .methodLink RX12 195 yX12_isIn
theorem wi_435 : ww_435 ∈ mj_tb := mj_t7 (i := 121) rfl rfl
abbrev ww_436 : Cond := .fieldLink RX12 86 "RentRiverModel" "text" "[B"
theorem wi_436 : ww_436 ∈ mj_tb := mj_t6 (i := 174) rfl rfl
abbrev ww_437 : Cond := .fieldLink RX12 65 "RentRiverModel" "havings" "[I"
theorem wi_437 : ww_437 ∈ mj_tb := mj_t6 (i := 161) rfl rfl
abbrev ww_438 : Cond := .methodLink RX12 339 yX12_gains
theorem wi_438 : ww_438 ∈ mj_tb := mj_t8 (i := 42) rfl rfl
abbrev ww_439 : Cond := .constant RX12 342 (1000000000)
theorem wi_439 : ww_439 ∈ mj_tb := mj_t8 (i := 37) rfl rfl
abbrev ww_440 : Cond := .fieldLink RX12 62 "RentRiverModel" "costs" "[I"
theorem wi_440 : ww_440 ∈ mj_tb := mj_t6 (i := 160) rfl rfl
abbrev ww_441 : Cond := .fieldLink RX12 59 "RentRiverModel" "tried" "[I"
theorem wi_441 : ww_441 ∈ mj_tb := mj_t6 (i := 159) rfl rfl
abbrev ww_442 : Cond := .methodLink RX12 343 yX12_canBe
theorem wi_442 : ww_442 ∈ mj_tb := mj_t8 (i := 38) rfl rfl
abbrev ww_443 : Cond := .fieldLink RX12 68 "RentRiverModel" "plan" "[I"
theorem wi_443 : ww_443 ∈ mj_tb := mj_t6 (i := 162) rfl rfl
abbrev ww_444 : Cond := .methodLink RX12 346 yX12_costOf
theorem wi_444 : ww_444 ∈ mj_tb := mj_t8 (i := 46) rfl rfl
abbrev ww_445 : Cond := .fieldLink RX12 349 "RentRiverModel" "hasPlan" "Z"
theorem wi_445 : ww_445 ∈ mj_tb := mj_t6 (i := 163) rfl rfl
abbrev ww_446 : Cond := .fieldLink RX12 260 "RentRiverModel" "plainNumber" "I"
theorem wi_446 : ww_446 ∈ mj_tb := mj_t6 (i := 149) rfl rfl
abbrev ww_447 : Cond := .fieldLink RX12 353 "RentRiverModel" "planNumber" "I"
theorem wi_447 : ww_447 ∈ mj_tb := mj_t6 (i := 164) rfl rfl
abbrev ww_448 : Cond := .fieldLink RX12 40 "RentRiverModel" "read" "[I"
theorem wi_448 : ww_448 ∈ mj_tb := mj_t6 (i := 132) rfl rfl
abbrev ww_449 : Cond := .fieldLink RX12 406 "RentRiverModel" "codes" "I"
theorem wi_449 : ww_449 ∈ mj_tb := mj_t6 (i := 177) rfl rfl
abbrev ww_450 : Cond := .methodLink RX12 288 yX12_more
theorem wi_450 : ww_450 ∈ mj_tb := mj_t7 (i := 234) rfl rfl
abbrev ww_451 : Cond := .methodLink RX12 242 yX12_taken
theorem wi_451 : ww_451 ∈ mj_tb := mj_t7 (i := 75) rfl rfl
abbrev ww_452 : Cond := .fieldLink RX12 163 "RentRiverModel" "token" "I"
theorem wi_452 : ww_452 ∈ mj_tb := mj_t6 (i := 135) rfl rfl
abbrev ww_453 : Cond := .methodLink RX12 282 yX12_dealRow
theorem wi_453 : ww_453 ∈ mj_tb := mj_t7 (i := 194) rfl rfl
abbrev ww_454 : Cond := .methodLink RX12 251 yX12_sign
theorem wi_454 : ww_454 ∈ mj_tb := mj_t7 (i := 135) rfl rfl
abbrev ww_455 : Cond := .methodLink RX12 311 yX12_placeOf
theorem wi_455 : ww_455 ∈ mj_tb := mj_t7 (i := 238) rfl rfl
abbrev ww_456 : Cond := .methodLink RX12 315 yX12_sizeOf
theorem wi_456 : ww_456 ∈ mj_tb := mj_t8 (i := 2) rfl rfl
abbrev ww_457 : Cond := .methodLink RX12 279 yX12_bidMany
theorem wi_457 : ww_457 ∈ mj_tb := mj_t7 (i := 182) rfl rfl
abbrev ww_458 : Cond := .fieldLink RX12 7 "RentRiverModel" "length" "I"
theorem wi_458 : ww_458 ∈ mj_tb := mj_t6 (i := 126) rfl rfl
abbrev ww_459 : Cond := .constantLong RX12 125 (7103860)
theorem wi_459 : ww_459 ∈ mj_tb := mj_t6 (i := 110) rfl rfl
abbrev ww_460 : Cond := .constantLong RX12 127 (7562593)
theorem wi_460 : ww_460 ∈ mj_tb := mj_t6 (i := 111) rfl rfl
abbrev ww_461 : Cond := .fieldLink RX12 173 "RentRiverModel" "number" "I"
theorem wi_461 : ww_461 ∈ mj_tb := mj_t6 (i := 138) rfl rfl
abbrev ww_462 : Cond := .methodLink RX12 232 yX12_isName
theorem wi_462 : ww_462 ∈ mj_tb := mj_t7 (i := 109) rfl rfl
abbrev ww_463 : Cond := .methodLink RX12 235 yX12_find
theorem wi_463 : ww_463 ∈ mj_tb := mj_t7 (i := 113) rfl rfl
abbrev ww_464 : Cond := .methodLink RX12 217 yX12_takes
theorem wi_464 : ww_464 ∈ mj_tb := mj_t7 (i := 117) rfl rfl
abbrev ww_465 : Cond := .fieldLink RX12 199 "RentRiverModel" "got" "I"
theorem wi_465 : ww_465 ∈ mj_tb := mj_t6 (i := 142) rfl rfl
abbrev ww_466 : Cond := .fieldLink RX12 368 "RentRiverModel" "seed" "I"
theorem wi_466 : ww_466 ∈ mj_tb := mj_t6 (i := 171) rfl rfl
abbrev ww_467 : Cond := .constant RX12 371 (1103515245)
theorem wi_467 : ww_467 ∈ mj_tb := mj_t8 (i := 118) rfl rfl
abbrev ww_468 : Cond := .methodLink RX12 375 yX12_thinks
theorem wi_468 : ww_468 ∈ mj_tb := mj_t8 (i := 82) rfl rfl
abbrev ww_469 : Cond := .methodLink RX12 387 yX12_wholeYear
theorem wi_469 : ww_469 ∈ mj_tb := mj_t8 (i := 110) rfl rfl
abbrev ww_470 : Cond := .methodLink RX12 384 yX12_forgets
theorem wi_470 : ww_470 ∈ mj_tb := mj_t8 (i := 90) rfl rfl
abbrev ww_471 : Cond := .methodLink RX12 213 yX12_bitOf
theorem wi_471 : ww_471 ∈ mj_tb := mj_t7 (i := 124) rfl rfl
abbrev ww_472 : Cond := .methodLink RX12 10 yX12_four
theorem wi_472 : ww_472 ∈ mj_tb := mj_t6 (i := 86) rfl rfl
abbrev ww_473 : Cond := .fieldLink RX12 43 "RentRiverModel" "names" "[J"
theorem wi_473 : ww_473 ∈ mj_tb := mj_t6 (i := 133) rfl rfl
abbrev ww_474 : Cond := .fieldLink RX12 176 "RentRiverModel" "word" "J"
theorem wi_474 : ww_474 ∈ mj_tb := mj_t6 (i := 141) rfl rfl
abbrev ww_475 : Cond := .fieldLink RX12 77 "RentRiverModel" "before" "[I"
theorem wi_475 : ww_475 ∈ mj_tb := mj_t6 (i := 169) rfl rfl
abbrev ww_476 : Cond := .fieldLink RX12 14 "RentRiverModel" "tape" "[B"
theorem wi_476 : ww_476 ∈ mj_tb := mj_t6 (i := 125) rfl rfl
abbrev ww_477 : Cond := .fieldLink RX12 356 "RentRiverModel" "hasRounds" "Z"
theorem wi_477 : ww_477 ∈ mj_tb := mj_t6 (i := 168) rfl rfl
abbrev ww_478 : Cond := .fieldLink RX12 359 "RentRiverModel" "roundTowns" "I"
theorem wi_478 : ww_478 ∈ mj_tb := mj_t6 (i := 167) rfl rfl
abbrev ww_479 : Cond := .fieldLink RX12 71 "RentRiverModel" "hasMonth" "[I"
theorem wi_479 : ww_479 ∈ mj_tb := mj_t6 (i := 165) rfl rfl
abbrev ww_480 : Cond := .fieldLink RX12 96 "RentRiverModel" "kept" "[I"
theorem wi_480 : ww_480 ∈ mj_tb := mj_t6 (i := 183) rfl rfl
abbrev ww_481 : Cond := .fieldLink RX12 99 "RentRiverModel" "namesKept" "[J"
theorem wi_481 : ww_481 ∈ mj_tb := mj_t6 (i := 184) rfl rfl
abbrev ww_482 : Cond := .fieldLink RX12 102 "RentRiverModel" "isKept" "[Z"
theorem wi_482 : ww_482 ∈ mj_tb := mj_t6 (i := 185) rfl rfl
abbrev ww_483 : Cond := .methodLink RX12 27 objectInit
theorem wi_483 : ww_483 ∈ mj_tb := mj_t6 (i := 99) rfl rfl
abbrev ww_484 : Cond := .fieldLink RX12 37 "RentRiverModel" "h" "[I"
theorem wi_484 : ww_484 ∈ mj_tb := mj_t6 (i := 131) rfl rfl
abbrev ww_485 : Cond := .fieldLink RX12 47 "RentRiverModel" "reserved" "[J"
theorem wi_485 : ww_485 ∈ mj_tb := mj_t6 (i := 134) rfl rfl
abbrev ww_486 : Cond := .fieldLink RX12 50 "RentRiverModel" "had" "[I"
theorem wi_486 : ww_486 ∈ mj_tb := mj_t6 (i := 147) rfl rfl
abbrev ww_487 : Cond := .fieldLink RX12 53 "RentRiverModel" "undone" "[I"
theorem wi_487 : ww_487 ∈ mj_tb := mj_t6 (i := 151) rfl rfl
abbrev ww_488 : Cond := .fieldLink RX12 56 "RentRiverModel" "leakTown" "I"
theorem wi_488 : ww_488 ∈ mj_tb := mj_t6 (i := 156) rfl rfl
abbrev ww_489 : Cond := .fieldLink RX12 74 "RentRiverModel" "prices" "[I"
theorem wi_489 : ww_489 ∈ mj_tb := mj_t6 (i := 166) rfl rfl
abbrev ww_490 : Cond := .fieldLink RX12 80 "RentRiverModel" "bidsKept" "[I"
theorem wi_490 : ww_490 ∈ mj_tb := mj_t6 (i := 170) rfl rfl
abbrev ww_491 : Cond := .fieldLink RX12 83 "RentRiverModel" "leaksFound" "[I"
theorem wi_491 : ww_491 ∈ mj_tb := mj_t6 (i := 172) rfl rfl
abbrev ww_492 : Cond := .fieldLink RX12 92 "RentRiverModel" "values" "[Z"
theorem wi_492 : ww_492 ∈ mj_tb := mj_t6 (i := 182) rfl rfl
abbrev ww_493 : Cond := .constantLong RX12 105 (1953462126)
theorem wi_493 : ww_493 ∈ mj_tb := mj_t6 (i := 100) rfl rfl
abbrev ww_494 : Cond := .constantLong RX12 107 (512736126322)
theorem wi_494 : ww_494 ∈ mj_tb := mj_t6 (i := 101) rfl rfl
abbrev ww_495 : Cond := .constantLong RX12 109 (6449508)
theorem wi_495 : ww_495 ∈ mj_tb := mj_t6 (i := 102) rfl rfl
abbrev ww_496 : Cond := .constantLong RX12 111 (1852138852)
theorem wi_496 : ww_496 ∈ mj_tb := mj_t6 (i := 103) rfl rfl
abbrev ww_497 : Cond := .constantLong RX12 113 (1835625580)
theorem wi_497 : ww_497 ∈ mj_tb := mj_t6 (i := 104) rfl rfl
abbrev ww_498 : Cond := .constantLong RX12 115 (108243533981541)
theorem wi_498 : ww_498 ∈ mj_tb := mj_t6 (i := 105) rfl rfl
abbrev ww_499 : Cond := .constantLong RX12 117 (439854918756)
theorem wi_499 : ww_499 ∈ mj_tb := mj_t6 (i := 106) rfl rfl
abbrev ww_500 : Cond := .constantLong RX12 119 (1836021349)
theorem wi_500 : ww_500 ∈ mj_tb := mj_t6 (i := 107) rfl rfl
abbrev ww_501 : Cond := .constantLong RX12 121 (1718186856)
theorem wi_501 : ww_501 ∈ mj_tb := mj_t6 (i := 108) rfl rfl
abbrev ww_502 : Cond := .constantLong RX12 123 (8097881601010983781)
theorem wi_502 : ww_502 ∈ mj_tb := mj_t6 (i := 109) rfl rfl
abbrev ww_503 : Cond := .constantLong RX12 133 (7237492)
theorem wi_503 : ww_503 ∈ mj_tb := mj_t6 (i := 114) rfl rfl
abbrev ww_504 : Cond := .constantLong RX12 135 (495673373285)
theorem wi_504 : ww_504 ∈ mj_tb := mj_t6 (i := 115) rfl rfl
abbrev ww_505 : Cond := .constantLong RX12 137 (32765899399459961)
theorem wi_505 : ww_505 ∈ mj_tb := mj_t6 (i := 116) rfl rfl
abbrev ww_506 : Cond := .constantLong RX12 139 (1886350948)
theorem wi_506 : ww_506 ∈ mj_tb := mj_t6 (i := 117) rfl rfl
abbrev ww_507 : Cond := .constantLong RX12 141 (483006772069)
theorem wi_507 : ww_507 ∈ mj_tb := mj_t6 (i := 118) rfl rfl
abbrev ww_508 : Cond := .constantLong RX12 143 (1885432164)
theorem wi_508 : ww_508 ∈ mj_tb := mj_t6 (i := 119) rfl rfl
abbrev ww_509 : Cond := .constantLong RX12 145 (6582905)
theorem wi_509 : ww_509 ∈ mj_tb := mj_t6 (i := 120) rfl rfl
abbrev ww_510 : Cond := .constantLong RX12 147 (1818588275)
theorem wi_510 : ww_510 ∈ mj_tb := mj_t6 (i := 121) rfl rfl
abbrev ww_511 : Cond := .constantLong RX12 149 (444300879214)
theorem wi_511 : ww_511 ∈ mj_tb := mj_t6 (i := 122) rfl rfl
abbrev ww_512 : Cond := .constantLong RX12 151 (482854658917)
theorem wi_512 : ww_512 ∈ mj_tb := mj_t6 (i := 123) rfl rfl
abbrev ww_513 : Cond := .methodLink RX12 439 yX12_isLeaf
theorem wi_513 : ww_513 ∈ mj_tb := mj_t8 (i := 204) rfl rfl
abbrev ww_514 : Cond := .methodLink RX12 412 yX12_code
theorem wi_514 : ww_514 ∈ mj_tb := mj_t8 (i := 176) rfl rfl
abbrev ww_515 : Cond := .fieldLink RX12 378 "RentRiverModel" "leakMany" "I"
theorem wi_515 : ww_515 ∈ mj_tb := mj_t6 (i := 173) rfl rfl
abbrev ww_516 : Cond := .fieldLink RX12 18 "RentRiverModel" "size" "I"
theorem wi_516 : ww_516 ∈ mj_tb := mj_t6 (i := 127) rfl rfl
abbrev ww_517 : Cond := .fieldLink RX12 327 "RentRiverModel" "leakMonth" "I"
theorem wi_517 : ww_517 ∈ mj_tb := mj_t6 (i := 157) rfl rfl
abbrev ww_518 : Cond := .fieldLink RX12 330 "RentRiverModel" "leakMuch" "I"
theorem wi_518 : ww_518 ∈ mj_tb := mj_t6 (i := 158) rfl rfl
abbrev ww_519 : Cond := .methodLink RX12 381 yX12_areLevels
theorem wi_519 : ww_519 ∈ mj_tb := mj_t8 (i := 86) rfl rfl
abbrev ww_520 : Cond := .fieldLink RX12 292 "RentRiverModel" "lies" "I"
theorem wi_520 : ww_520 ∈ mj_tb := mj_t6 (i := 153) rfl rfl
abbrev ww_521 : Cond := .fieldLink RX12 295 "RentRiverModel" "other" "I"
theorem wi_521 : ww_521 ∈ mj_tb := mj_t6 (i := 154) rfl rfl
abbrev ww_522 : Cond := .fieldLink RX12 298 "RentRiverModel" "paid" "I"
theorem wi_522 : ww_522 ∈ mj_tb := mj_t6 (i := 155) rfl rfl
abbrev ww_523 : Cond := .methodLink RX12 301 yX12_canPay
theorem wi_523 : ww_523 ∈ mj_tb := mj_t7 (i := 222) rfl rfl
abbrev ww_524 : Cond := .methodLink RX12 304 yX12_pays
theorem wi_524 : ww_524 ∈ mj_tb := mj_t7 (i := 230) rfl rfl
abbrev ww_525 : Cond := .methodLink RX12 308 yX12_lets
theorem wi_525 : ww_525 ∈ mj_tb := mj_t7 (i := 218) rfl rfl
abbrev ww_526 : Cond := .methodLink RX12 318 yX12_wasLet
theorem wi_526 : ww_526 ∈ mj_tb := mj_t8 (i := 5) rfl rfl
abbrev ww_527 : Cond := .methodLink RX12 321 yX12_comes
theorem wi_527 : ww_527 ∈ mj_tb := mj_t8 (i := 9) rfl rfl
abbrev ww_528 : Cond := .methodLink RX12 324 yX12_uses
theorem wi_528 : ww_528 ∈ mj_tb := mj_t8 (i := 13) rfl rfl
abbrev ww_529 : Cond := .methodLink RX12 153 yX12_peek
theorem wi_529 : ww_529 ∈ mj_tb := mj_t7 (i := 83) rfl rfl
abbrev ww_530 : Cond := .fieldLink RX12 21 "RentRiverModel" "p" "I"
theorem wi_530 : ww_530 ∈ mj_tb := mj_t6 (i := 128) rfl rfl
abbrev ww_531 : Cond := .fieldLink RX12 160 "RentRiverModel" "span" "I"
theorem wi_531 : ww_531 ∈ mj_tb := mj_t6 (i := 137) rfl rfl
abbrev ww_532 : Cond := .fieldLink RX12 24 "RentRiverModel" "limit" "I"
theorem wi_532 : ww_532 ∈ mj_tb := mj_t6 (i := 129) rfl rfl
abbrev ww_533 : Cond := .methodLink RX12 166 yX12_isSmall
theorem wi_533 : ww_533 ∈ mj_tb := mj_t7 (i := 87) rfl rfl
abbrev ww_534 : Cond := .methodLink RX12 170 yX12_isDigit
theorem wi_534 : ww_534 ∈ mj_tb := mj_t7 (i := 90) rfl rfl
abbrev ww_535 : Cond := .fieldLink RX12 254 "RentRiverModel" "undoMany" "I"
theorem wi_535 : ww_535 ∈ mj_tb := mj_t6 (i := 152) rfl rfl
abbrev ww_536 : Cond := .methodLink RX12 418 yX12_leafOf
theorem wi_536 : ww_536 ∈ mj_tb := mj_t8 (i := 192) rfl rfl
abbrev ww_537 : Cond := .fieldLink RX12 421 "RentRiverModel" "ones" "I"
theorem wi_537 : ww_537 ∈ mj_tb := mj_t6 (i := 178) rfl rfl
abbrev ww_538 : Cond := .fieldLink RX12 245 "RentRiverModel" "rows" "I"
theorem wi_538 : ww_538 ∈ mj_tb := mj_t6 (i := 143) rfl rfl
abbrev ww_539 : Cond := .fieldLink RX12 229 "RentRiverModel" "onces" "I"
theorem wi_539 : ww_539 ∈ mj_tb := mj_t6 (i := 144) rfl rfl
abbrev ww_540 : Cond := .fieldLink RX12 239 "RentRiverModel" "bids" "I"
theorem wi_540 : ww_540 ∈ mj_tb := mj_t6 (i := 145) rfl rfl
abbrev ww_541 : Cond := .fieldLink RX12 210 "RentRiverModel" "rain" "I"
theorem wi_541 : ww_541 ∈ mj_tb := mj_t6 (i := 146) rfl rfl
abbrev ww_542 : Cond := .methodLink RX12 248 yX12_row
theorem wi_542 : ww_542 ∈ mj_tb := mj_t7 (i := 93) rfl rfl
abbrev ww_543 : Cond := .fieldLink RX12 257 "RentRiverModel" "plainsRead" "I"
theorem wi_543 : ww_543 ∈ mj_tb := mj_t6 (i := 150) rfl rfl
abbrev ww_544 : Cond := .methodLink RX12 394 yX12_put
theorem wi_544 : ww_544 ∈ mj_tb := mj_t8 (i := 139) rfl rfl
abbrev ww_545 : Cond := .constantLong RX12 397 (255)
theorem wi_545 : ww_545 ∈ mj_tb := mj_t8 (i := 147) rfl rfl
abbrev ww_546 : Cond := .fieldLink RX12 226 "RentRiverModel" "of0" "I"
theorem wi_546 : ww_546 ∈ mj_tb := mj_t6 (i := 148) rfl rfl
abbrev ww_547 : Cond := .methodLink RX12 362 yX12_holderOf
theorem wi_547 : ww_547 ∈ mj_tb := mj_t8 (i := 62) rfl rfl
abbrev ww_548 : Cond := .methodLink RX12 206 yX12_readTown
theorem wi_548 : ww_548 ∈ mj_tb := mj_t7 (i := 101) rfl rfl
abbrev ww_549 : Cond := .methodLink RX12 220 yX12_readBid
theorem wi_549 : ww_549 ∈ mj_tb := mj_t7 (i := 127) rfl rfl
abbrev ww_550 : Cond := .methodLink RX12 223 yX12_readOf
theorem wi_550 : ww_550 ∈ mj_tb := mj_t7 (i := 131) rfl rfl
abbrev ww_551 : Cond := .methodLink RX12 443 yX12_isSaid
theorem wi_551 : ww_551 ∈ mj_tb := mj_t8 (i := 200) rfl rfl
abbrev ww_552 : Cond := .methodLink RX12 433 yX12_behind
theorem wi_552 : ww_552 ∈ mj_tb := mj_t8 (i := 184) rfl rfl
abbrev ww_553 : Cond := .methodLink RX12 436 yX12_operand
theorem wi_553 : ww_553 ∈ mj_tb := mj_t8 (i := 188) rfl rfl
abbrev ww_554 : Cond := .methodLink RX12 266 yX12_throwsIf
theorem wi_554 : ww_554 ∈ mj_tb := mj_t7 (i := 155) rfl rfl
abbrev ww_555 : Cond := .methodLink RX12 365 yX12_draw
theorem wi_555 : ww_555 ∈ mj_tb := mj_t8 (i := 114) rfl rfl
abbrev ww_556 : Cond := .methodLink RX12 399 yX12_putNumber
theorem wi_556 : ww_556 ∈ mj_tb := mj_t8 (i := 135) rfl rfl
abbrev ww_557 : Cond := .methodLink RX12 402 yX12_putName
theorem wi_557 : ww_557 ∈ mj_tb := mj_t8 (i := 143) rfl rfl
abbrev ww_558 : Cond := .fieldLink RX9 115 "RentRiver$Word" "ALL" "[LRentRiver$Word;"
theorem wi_558 : ww_558 ∈ mj_tb := mj_t3 (i := 77) rfl rfl
abbrev ww_559 : Cond := .fieldLink RX9 107 "RentRiver$Word" "code" "J"
theorem wi_559 : ww_559 ∈ mj_tb := mj_t8 (i := 237) rfl rfl
abbrev ww_560 : Cond := .fieldLink RX9 15 "RentRiver$Word" "NEEDS" "LRentRiver$Word;"
theorem wi_560 : ww_560 ∈ mj_tb := mj_t3 (i := 139) rfl rfl
abbrev ww_561 : Cond := .fieldLink RX9 18 "RentRiver$Word" "MILLS" "LRentRiver$Word;"
theorem wi_561 : ww_561 ∈ mj_tb := mj_t3 (i := 141) rfl rfl
abbrev ww_562 : Cond := .fieldLink RX9 21 "RentRiver$Word" "BRIDGES" "LRentRiver$Word;"
theorem wi_562 : ww_562 ∈ mj_tb := mj_t3 (i := 143) rfl rfl
abbrev ww_563 : Cond := .fieldLink RX9 24 "RentRiver$Word" "FIELDS" "LRentRiver$Word;"
theorem wi_563 : ww_563 ∈ mj_tb := mj_t3 (i := 145) rfl rfl
abbrev ww_564 : Cond := .fieldLink RX9 57 "RentRiver$Word" "PONDS" "LRentRiver$Word;"
theorem wi_564 : ww_564 ∈ mj_tb := mj_t5 (i := 172) rfl rfl
abbrev ww_565 : Cond := .fieldLink RX9 60 "RentRiver$Word" "PURSES" "LRentRiver$Word;"
theorem wi_565 : ww_565 ∈ mj_tb := mj_t5 (i := 174) rfl rfl
abbrev ww_566 : Cond := .fieldLink RX9 63 "RentRiver$Word" "PAYS" "LRentRiver$Word;"
theorem wi_566 : ww_566 ∈ mj_tb := mj_t5 (i := 176) rfl rfl
abbrev ww_567 : Cond := .fieldLink RX9 66 "RentRiver$Word" "DRY" "LRentRiver$Word;"
theorem wi_567 : ww_567 ∈ mj_tb := mj_t5 (i := 178) rfl rfl
abbrev ww_568 : Cond := .fieldLink RX9 69 "RentRiver$Word" "LETTINGS" "LRentRiver$Word;"
theorem wi_568 : ww_568 ∈ mj_tb := mj_t5 (i := 180) rfl rfl
abbrev ww_569 : Cond := .fieldLink RX9 72 "RentRiver$Word" "GREEN" "LRentRiver$Word;"
theorem wi_569 : ww_569 ∈ mj_tb := mj_t5 (i := 182) rfl rfl
abbrev ww_570 : Cond := .fieldLink RX9 75 "RentRiver$Word" "PLACE" "LRentRiver$Word;"
theorem wi_570 : ww_570 ∈ mj_tb := mj_t5 (i := 184) rfl rfl
abbrev ww_571 : Cond := .code yX0_canBe cX0_canBe 4 (some .boolean)
theorem wi_571 : ww_571 ∈ mj_tb := mj_t4 (i := 197) rfl rfl
abbrev ww_572 : Cond := .instanceMethod yX0_canBe
theorem wi_572 : ww_572 ∈ mj_tb := mj_t4 (i := 196) rfl rfl
abbrev ww_573 : Cond := .selects RX0 yX0_canBe yX0_canBe
theorem wi_573 : ww_573 ∈ mj_tb := mj_q3 (i := 4) rfl rfl rfl
abbrev ww_574 : Cond := .code yX0_costOf cX0_costOf 3 (some .int)
theorem wi_574 : ww_574 ∈ mj_tb := mj_t4 (i := 167) rfl rfl
abbrev ww_575 : Cond := .instanceMethod yX0_costOf
theorem wi_575 : ww_575 ∈ mj_tb := mj_t4 (i := 166) rfl rfl
abbrev ww_576 : Cond := .selects RX0 yX0_costOf yX0_costOf
theorem wi_576 : ww_576 ∈ mj_tb := mj_q2 (i := 13) rfl rfl rfl
abbrev ww_577 : Cond := .code yX0_firstForNothing cX0_firstForNothing 3 (some .int)
theorem wi_577 : ww_577 ∈ mj_tb := mj_t4 (i := 193) rfl rfl
abbrev ww_578 : Cond := .instanceMethod yX0_firstForNothing
theorem wi_578 : ww_578 ∈ mj_tb := mj_t4 (i := 192) rfl rfl
abbrev ww_579 : Cond := .selects RX0 yX0_firstForNothing yX0_firstForNothing
theorem wi_579 : ww_579 ∈ mj_tb := mj_q3 (i := 3) rfl rfl rfl
abbrev ww_580 : Cond := .code yX0_init cX0_init 1 none
theorem wi_580 : ww_580 ∈ mj_tb := mj_t2 (i := 94) rfl rfl
abbrev ww_581 : Cond := .instanceMethod yX0_init
theorem wi_581 : ww_581 ∈ mj_tb := mj_t2 (i := 93) rfl rfl
abbrev ww_582 : Cond := .code yX0_keepPath cX0_keepPath 4 none
theorem wi_582 : ww_582 ∈ mj_tb := mj_t4 (i := 185) rfl rfl
abbrev ww_583 : Cond := .instanceMethod yX0_keepPath
theorem wi_583 : ww_583 ∈ mj_tb := mj_t4 (i := 184) rfl rfl
abbrev ww_584 : Cond := .selects RX0 yX0_keepPath yX0_keepPath
theorem wi_584 : ww_584 ∈ mj_tb := mj_q3 (i := 1) rfl rfl rfl
abbrev ww_585 : Cond := .code yX0_keepTail cX0_keepTail 4 none
theorem wi_585 : ww_585 ∈ mj_tb := mj_t4 (i := 209) rfl rfl
abbrev ww_586 : Cond := .instanceMethod yX0_keepTail
theorem wi_586 : ww_586 ∈ mj_tb := mj_t4 (i := 208) rfl rfl
abbrev ww_587 : Cond := .selects RX0 yX0_keepTail yX0_keepTail
theorem wi_587 : ww_587 ∈ mj_tb := mj_q3 (i := 7) rfl rfl rfl
abbrev ww_588 : Cond := .code yX0_lacksAny cX0_lacksAny 2 (some .boolean)
theorem wi_588 : ww_588 ∈ mj_tb := mj_t4 (i := 181) rfl rfl
abbrev ww_589 : Cond := .instanceMethod yX0_lacksAny
theorem wi_589 : ww_589 ∈ mj_tb := mj_t4 (i := 180) rfl rfl
abbrev ww_590 : Cond := .selects RX0 yX0_lacksAny yX0_lacksAny
theorem wi_590 : ww_590 ∈ mj_tb := mj_q3 (i := 0) rfl rfl rfl
abbrev ww_591 : Cond := .code yX0_leastToCome cX0_leastToCome 6 (some .int)
theorem wi_591 : ww_591 ∈ mj_tb := mj_t4 (i := 177) rfl rfl
abbrev ww_592 : Cond := .instanceMethod yX0_leastToCome
theorem wi_592 : ww_592 ∈ mj_tb := mj_t4 (i := 176) rfl rfl
abbrev ww_593 : Cond := .selects RX0 yX0_leastToCome yX0_leastToCome
theorem wi_593 : ww_593 ∈ mj_tb := mj_q2 (i := 15) rfl rfl rfl
abbrev ww_594 : Cond := .code yX0_listTails cX0_listTails 4 none
theorem wi_594 : ww_594 ∈ mj_tb := mj_t4 (i := 159) rfl rfl
abbrev ww_595 : Cond := .instanceMethod yX0_listTails
theorem wi_595 : ww_595 ∈ mj_tb := mj_t4 (i := 158) rfl rfl
abbrev ww_596 : Cond := .selects RX0 yX0_listTails yX0_listTails
theorem wi_596 : ww_596 ∈ mj_tb := mj_q2 (i := 11) rfl rfl rfl
abbrev ww_597 : Cond := .code yX0_meetsNeeds cX0_meetsNeeds 3 (some .boolean)
theorem wi_597 : ww_597 ∈ mj_tb := mj_t4 (i := 205) rfl rfl
abbrev ww_598 : Cond := .instanceMethod yX0_meetsNeeds
theorem wi_598 : ww_598 ∈ mj_tb := mj_t4 (i := 204) rfl rfl
abbrev ww_599 : Cond := .selects RX0 yX0_meetsNeeds yX0_meetsNeeds
theorem wi_599 : ww_599 ∈ mj_tb := mj_q3 (i := 6) rfl rfl rfl
abbrev ww_600 : Cond := .code yX0_prepare cX0_prepare 5 none
theorem wi_600 : ww_600 ∈ mj_tb := mj_t4 (i := 148) rfl rfl
abbrev ww_601 : Cond := .instanceMethod yX0_prepare
theorem wi_601 : ww_601 ∈ mj_tb := mj_t4 (i := 147) rfl rfl
abbrev ww_602 : Cond := .selects RX0 yX0_prepare yX0_prepare
theorem wi_602 : ww_602 ∈ mj_tb := mj_q2 (i := 10) rfl rfl rfl
abbrev ww_603 : Cond := .code yX0_putAhead cX0_putAhead 7 none
theorem wi_603 : ww_603 ∈ mj_tb := mj_t4 (i := 163) rfl rfl
abbrev ww_604 : Cond := .instanceMethod yX0_putAhead
theorem wi_604 : ww_604 ∈ mj_tb := mj_t4 (i := 162) rfl rfl
abbrev ww_605 : Cond := .selects RX0 yX0_putAhead yX0_putAhead
theorem wi_605 : ww_605 ∈ mj_tb := mj_q2 (i := 12) rfl rfl rfl
abbrev ww_606 : Cond := .code yX0_searchPlan cX0_searchPlan 3 (some .int)
theorem wi_606 : ww_606 ∈ mj_tb := mj_t4 (i := 144) rfl rfl
abbrev ww_607 : Cond := .instanceMethod yX0_searchPlan
theorem wi_607 : ww_607 ∈ mj_tb := mj_t4 (i := 143) rfl rfl
abbrev ww_608 : Cond := .selects RX0 yX0_searchPlan yX0_searchPlan
theorem wi_608 : ww_608 ∈ mj_tb := mj_q2 (i := 9) rfl rfl rfl
abbrev ww_609 : Cond := .code yX0_solve cX0_solve 2 (some .int)
theorem wi_609 : ww_609 ∈ mj_tb := mj_t4 (i := 140) rfl rfl
abbrev ww_610 : Cond := .instanceMethod yX0_solve
theorem wi_610 : ww_610 ∈ mj_tb := mj_t4 (i := 138) rfl rfl
abbrev ww_611 : Cond := .selects RX0 yX0_solve yX0_solve
theorem wi_611 : ww_611 ∈ mj_tb := mj_t4 (i := 139) rfl rfl
abbrev ww_612 : Cond := .code yX0_stayFrom cX0_stayFrom 5 none
theorem wi_612 : ww_612 ∈ mj_tb := mj_t4 (i := 189) rfl rfl
abbrev ww_613 : Cond := .instanceMethod yX0_stayFrom
theorem wi_613 : ww_613 ∈ mj_tb := mj_t4 (i := 188) rfl rfl
abbrev ww_614 : Cond := .selects RX0 yX0_stayFrom yX0_stayFrom
theorem wi_614 : ww_614 ∈ mj_tb := mj_q3 (i := 2) rfl rfl rfl
abbrev ww_615 : Cond := .code yX0_tryMonth cX0_tryMonth 5 none
theorem wi_615 : ww_615 ∈ mj_tb := mj_t4 (i := 173) rfl rfl
abbrev ww_616 : Cond := .instanceMethod yX0_tryMonth
theorem wi_616 : ww_616 ∈ mj_tb := mj_t4 (i := 172) rfl rfl
abbrev ww_617 : Cond := .selects RX0 yX0_tryMonth yX0_tryMonth
theorem wi_617 : ww_617 ∈ mj_tb := mj_q2 (i := 14) rfl rfl rfl
abbrev ww_618 : Cond := .code yX0_tryTails cX0_tryTails 5 none
theorem wi_618 : ww_618 ∈ mj_tb := mj_t4 (i := 201) rfl rfl
abbrev ww_619 : Cond := .instanceMethod yX0_tryTails
theorem wi_619 : ww_619 ∈ mj_tb := mj_t4 (i := 200) rfl rfl
abbrev ww_620 : Cond := .selects RX0 yX0_tryTails yX0_tryTails
theorem wi_620 : ww_620 ∈ mj_tb := mj_q3 (i := 5) rfl rfl rfl
abbrev ww_621 : Cond := .code yX1_clear cX1_clear 2 none
theorem wi_621 : ww_621 ∈ mj_tb := mj_t1 (i := 179) rfl rfl
abbrev ww_622 : Cond := .instanceMethod yX1_clear
theorem wi_622 : ww_622 ∈ mj_tb := mj_t1 (i := 177) rfl rfl
abbrev ww_623 : Cond := .selects RX1 yX1_clear yX1_clear
theorem wi_623 : ww_623 ∈ mj_tb := mj_t1 (i := 178) rfl rfl
abbrev ww_624 : Cond := .code yX1_copy cX1_copy 2 none
theorem wi_624 : ww_624 ∈ mj_tb := mj_t5 (i := 230) rfl rfl
abbrev ww_625 : Cond := .instanceMethod yX1_copy
theorem wi_625 : ww_625 ∈ mj_tb := mj_t5 (i := 228) rfl rfl
abbrev ww_626 : Cond := .selects RX1 yX1_copy yX1_copy
theorem wi_626 : ww_626 ∈ mj_tb := mj_t5 (i := 229) rfl rfl
abbrev ww_627 : Cond := .code yX1_init cX1_init 1 none
theorem wi_627 : ww_627 ∈ mj_tb := mj_t1 (i := 174) rfl rfl
abbrev ww_628 : Cond := .instanceMethod yX1_init
theorem wi_628 : ww_628 ∈ mj_tb := mj_t1 (i := 173) rfl rfl
abbrev ww_629 : Cond := .code yX1_readLet cX1_readLet 7 (some .boolean)
theorem wi_629 : ww_629 ∈ mj_tb := mj_t4 (i := 18) rfl rfl
abbrev ww_630 : Cond := .instanceMethod yX1_readLet
theorem wi_630 : ww_630 ∈ mj_tb := mj_t4 (i := 17) rfl rfl
abbrev ww_631 : Cond := .selects RX1 yX1_readLet yX1_readLet
theorem wi_631 : ww_631 ∈ mj_tb := mj_q1 (i := 13) rfl rfl rfl
abbrev ww_632 : Cond := .code yX1_readRow cX1_readRow 5 (some .boolean)
theorem wi_632 : ww_632 ∈ mj_tb := mj_t4 (i := 4) rfl rfl
abbrev ww_633 : Cond := .instanceMethod yX1_readRow
theorem wi_633 : ww_633 ∈ mj_tb := mj_t4 (i := 3) rfl rfl
abbrev ww_634 : Cond := .selects RX1 yX1_readRow yX1_readRow
theorem wi_634 : ww_634 ∈ mj_tb := mj_q1 (i := 12) rfl rfl rfl
abbrev ww_635 : Cond := .code yX1_readRows cX1_readRows 4 none
theorem wi_635 : ww_635 ∈ mj_tb := mj_t3 (i := 239) rfl rfl
abbrev ww_636 : Cond := .instanceMethod yX1_readRows
theorem wi_636 : ww_636 ∈ mj_tb := mj_t3 (i := 237) rfl rfl
abbrev ww_637 : Cond := .selects RX1 yX1_readRows yX1_readRows
theorem wi_637 : ww_637 ∈ mj_tb := mj_t3 (i := 238) rfl rfl
abbrev ww_638 : Cond := .code yX1_tell cX1_tell 5 none
theorem wi_638 : ww_638 ∈ mj_tb := mj_t4 (i := 25) rfl rfl
abbrev ww_639 : Cond := .instanceMethod yX1_tell
theorem wi_639 : ww_639 ∈ mj_tb := mj_t4 (i := 23) rfl rfl
abbrev ww_640 : Cond := .selects RX1 yX1_tell yX1_tell
theorem wi_640 : ww_640 ∈ mj_tb := mj_t4 (i := 24) rfl rfl
abbrev ww_641 : Cond := .code yX1_tells cX1_tells 2 (some .boolean)
theorem wi_641 : ww_641 ∈ mj_tb := mj_t4 (i := 14) rfl rfl
abbrev ww_642 : Cond := .instanceMethod yX1_tells
theorem wi_642 : ww_642 ∈ mj_tb := mj_t4 (i := 12) rfl rfl
abbrev ww_643 : Cond := .selects RX1 yX1_tells yX1_tells
theorem wi_643 : ww_643 ∈ mj_tb := mj_t4 (i := 13) rfl rfl
abbrev ww_644 : Cond := .code yX2_asTold cX2_asTold 5 (some .boolean)
theorem wi_644 : ww_644 ∈ mj_tb := mj_t5 (i := 38) rfl rfl
abbrev ww_645 : Cond := .instanceMethod yX2_asTold
theorem wi_645 : ww_645 ∈ mj_tb := mj_t5 (i := 37) rfl rfl
abbrev ww_646 : Cond := .selects RX2 yX2_asTold yX2_asTold
theorem wi_646 : ww_646 ∈ mj_tb := mj_q3 (i := 12) rfl rfl rfl
abbrev ww_647 : Cond := .code yX2_comesBy cX2_comesBy 6 (some .boolean)
theorem wi_647 : ww_647 ∈ mj_tb := mj_t5 (i := 24) rfl rfl
abbrev ww_648 : Cond := .instanceMethod yX2_comesBy
theorem wi_648 : ww_648 ∈ mj_tb := mj_t5 (i := 23) rfl rfl
abbrev ww_649 : Cond := .selects RX2 yX2_comesBy yX2_comesBy
theorem wi_649 : ww_649 ∈ mj_tb := mj_q3 (i := 11) rfl rfl rfl
abbrev ww_650 : Cond := .code yX2_init cX2_init 1 none
theorem wi_650 : ww_650 ∈ mj_tb := mj_t2 (i := 184) rfl rfl
abbrev ww_651 : Cond := .instanceMethod yX2_init
theorem wi_651 : ww_651 ∈ mj_tb := mj_t2 (i := 183) rfl rfl
abbrev ww_652 : Cond := .code yX2_keep cX2_keep 4 none
theorem wi_652 : ww_652 ∈ mj_tb := mj_t5 (i := 42) rfl rfl
abbrev ww_653 : Cond := .instanceMethod yX2_keep
theorem wi_653 : ww_653 ∈ mj_tb := mj_t5 (i := 41) rfl rfl
abbrev ww_654 : Cond := .selects RX2 yX2_keep yX2_keep
theorem wi_654 : ww_654 ∈ mj_tb := mj_q3 (i := 13) rfl rfl rfl
abbrev ww_655 : Cond := .code yX2_readLevels cX2_readLevels 8 (some .boolean)
theorem wi_655 : ww_655 ∈ mj_tb := mj_t5 (i := 14) rfl rfl
abbrev ww_656 : Cond := .instanceMethod yX2_readLevels
theorem wi_656 : ww_656 ∈ mj_tb := mj_t5 (i := 12) rfl rfl
abbrev ww_657 : Cond := .selects RX2 yX2_readLevels yX2_readLevels
theorem wi_657 : ww_657 ∈ mj_tb := mj_t5 (i := 13) rfl rfl
abbrev ww_658 : Cond := .code yX2_run cX2_run 7 (some .int)
theorem wi_658 : ww_658 ∈ mj_tb := mj_t5 (i := 19) rfl rfl
abbrev ww_659 : Cond := .instanceMethod yX2_run
theorem wi_659 : ww_659 ∈ mj_tb := mj_t5 (i := 17) rfl rfl
abbrev ww_660 : Cond := .selects RX2 yX2_run yX2_run
theorem wi_660 : ww_660 ∈ mj_tb := mj_t5 (i := 18) rfl rfl
abbrev ww_661 : Cond := .code yX3_clear cX3_clear 3 none
theorem wi_661 : ww_661 ∈ mj_tb := mj_t3 (i := 44) rfl rfl
abbrev ww_662 : Cond := .instanceMethod yX3_clear
theorem wi_662 : ww_662 ∈ mj_tb := mj_t3 (i := 42) rfl rfl
abbrev ww_663 : Cond := .selects RX3 yX3_clear yX3_clear
theorem wi_663 : ww_663 ∈ mj_tb := mj_t3 (i := 43) rfl rfl
abbrev ww_664 : Cond := .code yX3_copy cX3_copy 3 none
theorem wi_664 : ww_664 ∈ mj_tb := mj_t5 (i := 113) rfl rfl
abbrev ww_665 : Cond := .instanceMethod yX3_copy
theorem wi_665 : ww_665 ∈ mj_tb := mj_t5 (i := 111) rfl rfl
abbrev ww_666 : Cond := .selects RX3 yX3_copy yX3_copy
theorem wi_666 : ww_666 ∈ mj_tb := mj_t5 (i := 112) rfl rfl
abbrev ww_667 : Cond := .code yX3_find cX3_find 4 (some .int)
theorem wi_667 : ww_667 ∈ mj_tb := mj_t3 (i := 101) rfl rfl
abbrev ww_668 : Cond := .instanceMethod yX3_find
theorem wi_668 : ww_668 ∈ mj_tb := mj_t3 (i := 100) rfl rfl
abbrev ww_669 : Cond := .selects RX3 yX3_find yX3_find
theorem wi_669 : ww_669 ∈ mj_tb := mj_q1 (i := 3) rfl rfl rfl
abbrev ww_670 : Cond := .code yX3_gain cX3_gain 3 (some .int)
theorem wi_670 : ww_670 ∈ mj_tb := mj_t4 (i := 153) rfl rfl
abbrev ww_671 : Cond := .instanceMethod yX3_gain
theorem wi_671 : ww_671 ∈ mj_tb := mj_t4 (i := 151) rfl rfl
abbrev ww_672 : Cond := .selects RX3 yX3_gain yX3_gain
theorem wi_672 : ww_672 ∈ mj_tb := mj_t4 (i := 152) rfl rfl
abbrev ww_673 : Cond := .code yX3_init cX3_init 1 none
theorem wi_673 : ww_673 ∈ mj_tb := mj_t1 (i := 94) rfl rfl
abbrev ww_674 : Cond := .instanceMethod yX3_init
theorem wi_674 : ww_674 ∈ mj_tb := mj_t1 (i := 93) rfl rfl
abbrev ww_675 : Cond := .code yX3_nextTown cX3_nextTown 2 (some .int)
theorem wi_675 : ww_675 ∈ mj_tb := mj_t3 (i := 126) rfl rfl
abbrev ww_676 : Cond := .instanceMethod yX3_nextTown
theorem wi_676 : ww_676 ∈ mj_tb := mj_t3 (i := 124) rfl rfl
abbrev ww_677 : Cond := .selects RX3 yX3_nextTown yX3_nextTown
theorem wi_677 : ww_677 ∈ mj_tb := mj_t3 (i := 125) rfl rfl
abbrev ww_678 : Cond := .code yX3_placeOf cX3_placeOf 2 (some .int)
theorem wi_678 : ww_678 ∈ mj_tb := mj_t4 (i := 77) rfl rfl
abbrev ww_679 : Cond := .instanceMethod yX3_placeOf
theorem wi_679 : ww_679 ∈ mj_tb := mj_t4 (i := 75) rfl rfl
abbrev ww_680 : Cond := .selects RX3 yX3_placeOf yX3_placeOf
theorem wi_680 : ww_680 ∈ mj_tb := mj_t4 (i := 76) rfl rfl
abbrev ww_681 : Cond := .code yX3_readAboutTown cX3_readAboutTown 6 (some .boolean)
theorem wi_681 : ww_681 ∈ mj_tb := mj_t3 (i := 150) rfl rfl
abbrev ww_682 : Cond := .instanceMethod yX3_readAboutTown
theorem wi_682 : ww_682 ∈ mj_tb := mj_t3 (i := 149) rfl rfl
abbrev ww_683 : Cond := .selects RX3 yX3_readAboutTown yX3_readAboutTown
theorem wi_683 : ww_683 ∈ mj_tb := mj_q1 (i := 6) rfl rfl rfl
abbrev ww_684 : Cond := .code yX3_readBid cX3_readBid 5 (some .boolean)
theorem wi_684 : ww_684 ∈ mj_tb := mj_t3 (i := 122) rfl rfl
abbrev ww_685 : Cond := .instanceMethod yX3_readBid
theorem wi_685 : ww_685 ∈ mj_tb := mj_t3 (i := 121) rfl rfl
abbrev ww_686 : Cond := .selects RX3 yX3_readBid yX3_readBid
theorem wi_686 : ww_686 ∈ mj_tb := mj_q1 (i := 5) rfl rfl rfl
abbrev ww_687 : Cond := .code yX3_readFish cX3_readFish 2 (some .boolean)
theorem wi_687 : ww_687 ∈ mj_tb := mj_t3 (i := 164) rfl rfl
abbrev ww_688 : Cond := .instanceMethod yX3_readFish
theorem wi_688 : ww_688 ∈ mj_tb := mj_t3 (i := 163) rfl rfl
abbrev ww_689 : Cond := .selects RX3 yX3_readFish yX3_readFish
theorem wi_689 : ww_689 ∈ mj_tb := mj_q1 (i := 8) rfl rfl rfl
abbrev ww_690 : Cond := .code yX3_readMove cX3_readMove 2 (some .boolean)
theorem wi_690 : ww_690 ∈ mj_tb := mj_t3 (i := 158) rfl rfl
abbrev ww_691 : Cond := .instanceMethod yX3_readMove
theorem wi_691 : ww_691 ∈ mj_tb := mj_t3 (i := 157) rfl rfl
abbrev ww_692 : Cond := .selects RX3 yX3_readMove yX3_readMove
theorem wi_692 : ww_692 ∈ mj_tb := mj_q1 (i := 7) rfl rfl rfl
abbrev ww_693 : Cond := .code yX3_readPatience cX3_readPatience 2 (some .boolean)
theorem wi_693 : ww_693 ∈ mj_tb := mj_t3 (i := 170) rfl rfl
abbrev ww_694 : Cond := .instanceMethod yX3_readPatience
theorem wi_694 : ww_694 ∈ mj_tb := mj_t3 (i := 169) rfl rfl
abbrev ww_695 : Cond := .selects RX3 yX3_readPatience yX3_readPatience
theorem wi_695 : ww_695 ∈ mj_tb := mj_q1 (i := 9) rfl rfl rfl
abbrev ww_696 : Cond := .code yX3_readRow cX3_readRow 3 (some .boolean)
theorem wi_696 : ww_696 ∈ mj_tb := mj_t3 (i := 82) rfl rfl
abbrev ww_697 : Cond := .instanceMethod yX3_readRow
theorem wi_697 : ww_697 ∈ mj_tb := mj_t3 (i := 81) rfl rfl
abbrev ww_698 : Cond := .selects RX3 yX3_readRow yX3_readRow
theorem wi_698 : ww_698 ∈ mj_tb := mj_q1 (i := 1) rfl rfl rfl
abbrev ww_699 : Cond := .code yX3_readRows cX3_readRows 3 (some .int)
theorem wi_699 : ww_699 ∈ mj_tb := mj_t3 (i := 52) rfl rfl
abbrev ww_700 : Cond := .instanceMethod yX3_readRows
theorem wi_700 : ww_700 ∈ mj_tb := mj_t3 (i := 50) rfl rfl
abbrev ww_701 : Cond := .selects RX3 yX3_readRows yX3_readRows
theorem wi_701 : ww_701 ∈ mj_tb := mj_t3 (i := 51) rfl rfl
abbrev ww_702 : Cond := .code yX3_readTown cX3_readTown 5 (some .boolean)
theorem wi_702 : ww_702 ∈ mj_tb := mj_t3 (i := 92) rfl rfl
abbrev ww_703 : Cond := .instanceMethod yX3_readTown
theorem wi_703 : ww_703 ∈ mj_tb := mj_t3 (i := 91) rfl rfl
abbrev ww_704 : Cond := .selects RX3 yX3_readTown yX3_readTown
theorem wi_704 : ww_704 ∈ mj_tb := mj_q1 (i := 2) rfl rfl rfl
abbrev ww_705 : Cond := .code yX3_readWater cX3_readWater 4 (some .boolean)
theorem wi_705 : ww_705 ∈ mj_tb := mj_t3 (i := 116) rfl rfl
abbrev ww_706 : Cond := .instanceMethod yX3_readWater
theorem wi_706 : ww_706 ∈ mj_tb := mj_t3 (i := 115) rfl rfl
abbrev ww_707 : Cond := .selects RX3 yX3_readWater yX3_readWater
theorem wi_707 : ww_707 ∈ mj_tb := mj_q1 (i := 4) rfl rfl rfl
abbrev ww_708 : Cond := .code yX3_setBid cX3_setBid 4 none
theorem wi_708 : ww_708 ∈ mj_tb := mj_t3 (i := 134) rfl rfl
abbrev ww_709 : Cond := .instanceMethod yX3_setBid
theorem wi_709 : ww_709 ∈ mj_tb := mj_t3 (i := 132) rfl rfl
abbrev ww_710 : Cond := .selects RX3 yX3_setBid yX3_setBid
theorem wi_710 : ww_710 ∈ mj_tb := mj_t3 (i := 133) rfl rfl
abbrev ww_711 : Cond := .code yX3_townHere cX3_townHere 3 (some .int)
theorem wi_711 : ww_711 ∈ mj_tb := mj_t3 (i := 130) rfl rfl
abbrev ww_712 : Cond := .instanceMethod yX3_townHere
theorem wi_712 : ww_712 ∈ mj_tb := mj_t3 (i := 128) rfl rfl
abbrev ww_713 : Cond := .selects RX3 yX3_townHere yX3_townHere
theorem wi_713 : ww_713 ∈ mj_tb := mj_t3 (i := 129) rfl rfl
abbrev ww_714 : Cond := .code yX4_clear cX4_clear 2 none
theorem wi_714 : ww_714 ∈ mj_tb := mj_t4 (i := 230) rfl rfl
abbrev ww_715 : Cond := .instanceMethod yX4_clear
theorem wi_715 : ww_715 ∈ mj_tb := mj_t4 (i := 229) rfl rfl
abbrev ww_716 : Cond := .selects RX4 yX4_clear yX4_clear
theorem wi_716 : ww_716 ∈ mj_tb := mj_q3 (i := 8) rfl rfl rfl
abbrev ww_717 : Cond := .code yX4_init cX4_init 1 none
theorem wi_717 : ww_717 ∈ mj_tb := mj_t2 (i := 162) rfl rfl
abbrev ww_718 : Cond := .instanceMethod yX4_init
theorem wi_718 : ww_718 ∈ mj_tb := mj_t2 (i := 161) rfl rfl
abbrev ww_719 : Cond := .code yX4_priceNow cX4_priceNow 3 (some .int)
theorem wi_719 : ww_719 ∈ mj_tb := mj_t4 (i := 238) rfl rfl
abbrev ww_720 : Cond := .instanceMethod yX4_priceNow
theorem wi_720 : ww_720 ∈ mj_tb := mj_t4 (i := 237) rfl rfl
abbrev ww_721 : Cond := .selects RX4 yX4_priceNow yX4_priceNow
theorem wi_721 : ww_721 ∈ mj_tb := mj_q3 (i := 10) rfl rfl rfl
abbrev ww_722 : Cond := .code yX4_run cX4_run 6 (some .int)
theorem wi_722 : ww_722 ∈ mj_tb := mj_t4 (i := 226) rfl rfl
abbrev ww_723 : Cond := .instanceMethod yX4_run
theorem wi_723 : ww_723 ∈ mj_tb := mj_t4 (i := 224) rfl rfl
abbrev ww_724 : Cond := .selects RX4 yX4_run yX4_run
theorem wi_724 : ww_724 ∈ mj_tb := mj_t4 (i := 225) rfl rfl
abbrev ww_725 : Cond := .code yX4_takeBest cX4_takeBest 8 (some .boolean)
theorem wi_725 : ww_725 ∈ mj_tb := mj_t4 (i := 234) rfl rfl
abbrev ww_726 : Cond := .instanceMethod yX4_takeBest
theorem wi_726 : ww_726 ∈ mj_tb := mj_t4 (i := 233) rfl rfl
abbrev ww_727 : Cond := .selects RX4 yX4_takeBest yX4_takeBest
theorem wi_727 : ww_727 ∈ mj_tb := mj_q3 (i := 9) rfl rfl rfl
abbrev ww_728 : Cond := .code yX5_add cX5_add 4 (some .boolean)
theorem wi_728 : ww_728 ∈ mj_tb := mj_t5 (i := 194) rfl rfl
abbrev ww_729 : Cond := .instanceMethod yX5_add
theorem wi_729 : ww_729 ∈ mj_tb := mj_t5 (i := 193) rfl rfl
abbrev ww_730 : Cond := .selects RX5 yX5_add yX5_add
theorem wi_730 : ww_730 ∈ mj_tb := mj_q4 (i := 7) rfl rfl rfl
abbrev ww_731 : Cond := .code yX5_begins cX5_begins 1 (some .boolean)
theorem wi_731 : ww_731 ∈ mj_tb := mj_t5 (i := 161) rfl rfl
abbrev ww_732 : Cond := .static yX5_begins
theorem wi_732 : ww_732 ∈ mj_tb := mj_t5 (i := 160) rfl rfl
abbrev ww_733 : Cond := .code yX5_clear cX5_clear 1 none
theorem wi_733 : ww_733 ∈ mj_tb := mj_t3 (i := 187) rfl rfl
abbrev ww_734 : Cond := .instanceMethod yX5_clear
theorem wi_734 : ww_734 ∈ mj_tb := mj_t3 (i := 185) rfl rfl
abbrev ww_735 : Cond := .selects RX5 yX5_clear yX5_clear
theorem wi_735 : ww_735 ∈ mj_tb := mj_t3 (i := 186) rfl rfl
abbrev ww_736 : Cond := .code yX5_copy cX5_copy 3 none
theorem wi_736 : ww_736 ∈ mj_tb := mj_t5 (i := 235) rfl rfl
abbrev ww_737 : Cond := .instanceMethod yX5_copy
theorem wi_737 : ww_737 ∈ mj_tb := mj_t5 (i := 233) rfl rfl
abbrev ww_738 : Cond := .selects RX5 yX5_copy yX5_copy
theorem wi_738 : ww_738 ∈ mj_tb := mj_t5 (i := 234) rfl rfl
abbrev ww_739 : Cond := .code yX5_holds cX5_holds 7 (some .boolean)
theorem wi_739 : ww_739 ∈ mj_tb := mj_t5 (i := 212) rfl rfl
abbrev ww_740 : Cond := .instanceMethod yX5_holds
theorem wi_740 : ww_740 ∈ mj_tb := mj_t5 (i := 210) rfl rfl
abbrev ww_741 : Cond := .selects RX5 yX5_holds yX5_holds
theorem wi_741 : ww_741 ∈ mj_tb := mj_t5 (i := 211) rfl rfl
abbrev ww_742 : Cond := .code yX5_holdsOne cX5_holdsOne 8 (some .boolean)
theorem wi_742 : ww_742 ∈ mj_tb := mj_t5 (i := 216) rfl rfl
abbrev ww_743 : Cond := .instanceMethod yX5_holdsOne
theorem wi_743 : ww_743 ∈ mj_tb := mj_t5 (i := 215) rfl rfl
abbrev ww_744 : Cond := .selects RX5 yX5_holdsOne yX5_holdsOne
theorem wi_744 : ww_744 ∈ mj_tb := mj_q4 (i := 9) rfl rfl rfl
abbrev ww_745 : Cond := .code yX5_init cX5_init 1 none
theorem wi_745 : ww_745 ∈ mj_tb := mj_t1 (i := 204) rfl rfl
abbrev ww_746 : Cond := .instanceMethod yX5_init
theorem wi_746 : ww_746 ∈ mj_tb := mj_t1 (i := 203) rfl rfl
abbrev ww_747 : Cond := .code yX5_readAll cX5_readAll 4 (some .boolean)
theorem wi_747 : ww_747 ∈ mj_tb := mj_t5 (i := 153) rfl rfl
abbrev ww_748 : Cond := .instanceMethod yX5_readAll
theorem wi_748 : ww_748 ∈ mj_tb := mj_t5 (i := 152) rfl rfl
abbrev ww_749 : Cond := .selects RX5 yX5_readAll yX5_readAll
theorem wi_749 : ww_749 ∈ mj_tb := mj_q4 (i := 4) rfl rfl rfl
abbrev ww_750 : Cond := .code yX5_readClosing cX5_readClosing 2 (some .boolean)
theorem wi_750 : ww_750 ∈ mj_tb := mj_t5 (i := 190) rfl rfl
abbrev ww_751 : Cond := .instanceMethod yX5_readClosing
theorem wi_751 : ww_751 ∈ mj_tb := mj_t5 (i := 189) rfl rfl
abbrev ww_752 : Cond := .selects RX5 yX5_readClosing yX5_readClosing
theorem wi_752 : ww_752 ∈ mj_tb := mj_q4 (i := 6) rfl rfl rfl
abbrev ww_753 : Cond := .code yX5_readCond cX5_readCond 4 (some .boolean)
theorem wi_753 : ww_753 ∈ mj_tb := mj_t5 (i := 149) rfl rfl
abbrev ww_754 : Cond := .instanceMethod yX5_readCond
theorem wi_754 : ww_754 ∈ mj_tb := mj_t5 (i := 148) rfl rfl
abbrev ww_755 : Cond := .selects RX5 yX5_readCond yX5_readCond
theorem wi_755 : ww_755 ∈ mj_tb := mj_q4 (i := 3) rfl rfl rfl
abbrev ww_756 : Cond := .code yX5_readMeasure cX5_readMeasure 5 (some .boolean)
theorem wi_756 : ww_756 ∈ mj_tb := mj_t5 (i := 198) rfl rfl
abbrev ww_757 : Cond := .instanceMethod yX5_readMeasure
theorem wi_757 : ww_757 ∈ mj_tb := mj_t5 (i := 197) rfl rfl
abbrev ww_758 : Cond := .selects RX5 yX5_readMeasure yX5_readMeasure
theorem wi_758 : ww_758 ∈ mj_tb := mj_q4 (i := 8) rfl rfl rfl
abbrev ww_759 : Cond := .code yX5_readOne cX5_readOne 5 (some .boolean)
theorem wi_759 : ww_759 ∈ mj_tb := mj_t5 (i := 157) rfl rfl
abbrev ww_760 : Cond := .instanceMethod yX5_readOne
theorem wi_760 : ww_760 ∈ mj_tb := mj_t5 (i := 156) rfl rfl
abbrev ww_761 : Cond := .selects RX5 yX5_readOne yX5_readOne
theorem wi_761 : ww_761 ∈ mj_tb := mj_q4 (i := 5) rfl rfl rfl
abbrev ww_762 : Cond := .code yX5_readText cX5_readText 2 none
theorem wi_762 : ww_762 ∈ mj_tb := mj_t5 (i := 144) rfl rfl
abbrev ww_763 : Cond := .instanceMethod yX5_readText
theorem wi_763 : ww_763 ∈ mj_tb := mj_t5 (i := 142) rfl rfl
abbrev ww_764 : Cond := .selects RX5 yX5_readText yX5_readText
theorem wi_764 : ww_764 ∈ mj_tb := mj_t5 (i := 143) rfl rfl
abbrev ww_765 : Cond := .code yX6_copy cX6_copy 2 none
theorem wi_765 : ww_765 ∈ mj_tb := mj_t5 (i := 225) rfl rfl
abbrev ww_766 : Cond := .instanceMethod yX6_copy
theorem wi_766 : ww_766 ∈ mj_tb := mj_t5 (i := 223) rfl rfl
abbrev ww_767 : Cond := .selects RX6 yX6_copy yX6_copy
theorem wi_767 : ww_767 ∈ mj_tb := mj_t5 (i := 224) rfl rfl
abbrev ww_768 : Cond := .code yX6_init cX6_init 1 none
theorem wi_768 : ww_768 ∈ mj_tb := mj_t1 (i := 88) rfl rfl
abbrev ww_769 : Cond := .instanceMethod yX6_init
theorem wi_769 : ww_769 ∈ mj_tb := mj_t1 (i := 87) rfl rfl
abbrev ww_770 : Cond := .code yX7_advance cX7_advance 2 none
theorem wi_770 : ww_770 ∈ mj_tb := mj_t3 (i := 56) rfl rfl
abbrev ww_771 : Cond := .instanceMethod yX7_advance
theorem wi_771 : ww_771 ∈ mj_tb := mj_t3 (i := 54) rfl rfl
abbrev ww_772 : Cond := .selects RX7 yX7_advance yX7_advance
theorem wi_772 : ww_772 ∈ mj_tb := mj_t3 (i := 55) rfl rfl
abbrev ww_773 : Cond := .code yX7_finish cX7_finish 1 (some .boolean)
theorem wi_773 : ww_773 ∈ mj_tb := mj_t3 (i := 182) rfl rfl
abbrev ww_774 : Cond := .instanceMethod yX7_finish
theorem wi_774 : ww_774 ∈ mj_tb := mj_t3 (i := 180) rfl rfl
abbrev ww_775 : Cond := .selects RX7 yX7_finish yX7_finish
theorem wi_775 : ww_775 ∈ mj_tb := mj_t3 (i := 181) rfl rfl
abbrev ww_776 : Cond := .code yX7_hasRoom cX7_hasRoom 1 (some .boolean)
theorem wi_776 : ww_776 ∈ mj_tb := mj_t3 (i := 28) rfl rfl
abbrev ww_777 : Cond := .instanceMethod yX7_hasRoom
theorem wi_777 : ww_777 ∈ mj_tb := mj_t3 (i := 26) rfl rfl
abbrev ww_778 : Cond := .selects RX7 yX7_hasRoom yX7_hasRoom
theorem wi_778 : ww_778 ∈ mj_tb := mj_t3 (i := 27) rfl rfl
abbrev ww_779 : Cond := .code yX7_init cX7_init 1 none
theorem wi_779 : ww_779 ∈ mj_tb := mj_t1 (i := 33) rfl rfl
abbrev ww_780 : Cond := .instanceMethod yX7_init
theorem wi_780 : ww_780 ∈ mj_tb := mj_t1 (i := 32) rfl rfl
abbrev ww_781 : Cond := .code yX7_isDigit cX7_isDigit 1 (some .boolean)
theorem wi_781 : ww_781 ∈ mj_tb := mj_t3 (i := 69) rfl rfl
abbrev ww_782 : Cond := .static yX7_isDigit
theorem wi_782 : ww_782 ∈ mj_tb := mj_t3 (i := 68) rfl rfl
abbrev ww_783 : Cond := .code yX7_isLetter cX7_isLetter 1 (some .boolean)
theorem wi_783 : ww_783 ∈ mj_tb := mj_t3 (i := 66) rfl rfl
abbrev ww_784 : Cond := .static yX7_isLetter
theorem wi_784 : ww_784 ∈ mj_tb := mj_t3 (i := 65) rfl rfl
abbrev ww_785 : Cond := .code yX7_isSign cX7_isSign 2 (some .boolean)
theorem wi_785 : ww_785 ∈ mj_tb := mj_t3 (i := 178) rfl rfl
abbrev ww_786 : Cond := .instanceMethod yX7_isSign
theorem wi_786 : ww_786 ∈ mj_tb := mj_t3 (i := 176) rfl rfl
abbrev ww_787 : Cond := .selects RX7 yX7_isSign yX7_isSign
theorem wi_787 : ww_787 ∈ mj_tb := mj_t3 (i := 177) rfl rfl
abbrev ww_788 : Cond := .code yX7_nameHere cX7_nameHere 1 (some .boolean)
theorem wi_788 : ww_788 ∈ mj_tb := mj_t3 (i := 96) rfl rfl
abbrev ww_789 : Cond := .instanceMethod yX7_nameHere
theorem wi_789 : ww_789 ∈ mj_tb := mj_t3 (i := 94) rfl rfl
abbrev ww_790 : Cond := .selects RX7 yX7_nameHere yX7_nameHere
theorem wi_790 : ww_790 ∈ mj_tb := mj_t3 (i := 95) rfl rfl
abbrev ww_791 : Cond := .code yX7_nextNumber cX7_nextNumber 3 (some .int)
theorem wi_791 : ww_791 ∈ mj_tb := mj_t3 (i := 105) rfl rfl
abbrev ww_792 : Cond := .instanceMethod yX7_nextNumber
theorem wi_792 : ww_792 ∈ mj_tb := mj_t3 (i := 103) rfl rfl
abbrev ww_793 : Cond := .selects RX7 yX7_nextNumber yX7_nextNumber
theorem wi_793 : ww_793 ∈ mj_tb := mj_t3 (i := 104) rfl rfl
abbrev ww_794 : Cond := .code yX7_nextSign cX7_nextSign 2 (some .boolean)
theorem wi_794 : ww_794 ∈ mj_tb := mj_t3 (i := 174) rfl rfl
abbrev ww_795 : Cond := .instanceMethod yX7_nextSign
theorem wi_795 : ww_795 ∈ mj_tb := mj_t3 (i := 172) rfl rfl
abbrev ww_796 : Cond := .selects RX7 yX7_nextSign yX7_nextSign
theorem wi_796 : ww_796 ∈ mj_tb := mj_t3 (i := 173) rfl rfl
abbrev ww_797 : Cond := .code yX7_numberHere cX7_numberHere 3 (some .int)
theorem wi_797 : ww_797 ∈ mj_tb := mj_t3 (i := 110) rfl rfl
abbrev ww_798 : Cond := .instanceMethod yX7_numberHere
theorem wi_798 : ww_798 ∈ mj_tb := mj_t3 (i := 108) rfl rfl
abbrev ww_799 : Cond := .selects RX7 yX7_numberHere yX7_numberHere
theorem wi_799 : ww_799 ∈ mj_tb := mj_t3 (i := 109) rfl rfl
abbrev ww_800 : Cond := .code yX7_open cX7_open 2 none
theorem wi_800 : ww_800 ∈ mj_tb := mj_t3 (i := 48) rfl rfl
abbrev ww_801 : Cond := .instanceMethod yX7_open
theorem wi_801 : ww_801 ∈ mj_tb := mj_t3 (i := 46) rfl rfl
abbrev ww_802 : Cond := .selects RX7 yX7_open yX7_open
theorem wi_802 : ww_802 ∈ mj_tb := mj_t3 (i := 47) rfl rfl
abbrev ww_803 : Cond := .code yX7_put cX7_put 3 none
theorem wi_803 : ww_803 ∈ mj_tb := mj_t3 (i := 32) rfl rfl
abbrev ww_804 : Cond := .instanceMethod yX7_put
theorem wi_804 : ww_804 ∈ mj_tb := mj_t3 (i := 30) rfl rfl
abbrev ww_805 : Cond := .selects RX7 yX7_put yX7_put
theorem wi_805 : ww_805 ∈ mj_tb := mj_t3 (i := 31) rfl rfl
abbrev ww_806 : Cond := .code yX7_readRun cX7_readRun 4 none
theorem wi_806 : ww_806 ∈ mj_tb := mj_t3 (i := 73) rfl rfl
abbrev ww_807 : Cond := .instanceMethod yX7_readRun
theorem wi_807 : ww_807 ∈ mj_tb := mj_t3 (i := 72) rfl rfl
abbrev ww_808 : Cond := .selects RX7 yX7_readRun yX7_readRun
theorem wi_808 : ww_808 ∈ mj_tb := mj_q1 (i := 0) rfl rfl rfl
abbrev ww_809 : Cond := .code yX7_refuse cX7_refuse 2 (some .boolean)
theorem wi_809 : ww_809 ∈ mj_tb := mj_t3 (i := 86) rfl rfl
abbrev ww_810 : Cond := .instanceMethod yX7_refuse
theorem wi_810 : ww_810 ∈ mj_tb := mj_t3 (i := 84) rfl rfl
abbrev ww_811 : Cond := .selects RX7 yX7_refuse yX7_refuse
theorem wi_811 : ww_811 ∈ mj_tb := mj_t3 (i := 85) rfl rfl
abbrev ww_812 : Cond := .code yX7_valueAt cX7_valueAt 2 (some .int)
theorem wi_812 : ww_812 ∈ mj_tb := mj_t3 (i := 63) rfl rfl
abbrev ww_813 : Cond := .instanceMethod yX7_valueAt
theorem wi_813 : ww_813 ∈ mj_tb := mj_t3 (i := 61) rfl rfl
abbrev ww_814 : Cond := .selects RX7 yX7_valueAt yX7_valueAt
theorem wi_814 : ww_814 ∈ mj_tb := mj_t3 (i := 62) rfl rfl
abbrev ww_815 : Cond := .code yX8_back cX8_back 2 (some .int)
theorem wi_815 : ww_815 ∈ mj_tb := mj_t3 (i := 226) rfl rfl
abbrev ww_816 : Cond := .instanceMethod yX8_back
theorem wi_816 : ww_816 ∈ mj_tb := mj_t3 (i := 224) rfl rfl
abbrev ww_817 : Cond := .selects RX8 yX8_back yX8_back
theorem wi_817 : ww_817 ∈ mj_tb := mj_t3 (i := 225) rfl rfl
abbrev ww_818 : Cond := .code yX8_init cX8_init 1 none
theorem wi_818 : ww_818 ∈ mj_tb := mj_t2 (i := 74) rfl rfl
abbrev ww_819 : Cond := .instanceMethod yX8_init
theorem wi_819 : ww_819 ∈ mj_tb := mj_t2 (i := 73) rfl rfl
abbrev ww_820 : Cond := .code yX8_keep cX8_keep 4 none
theorem wi_820 : ww_820 ∈ mj_tb := mj_t3 (i := 214) rfl rfl
abbrev ww_821 : Cond := .instanceMethod yX8_keep
theorem wi_821 : ww_821 ∈ mj_tb := mj_t3 (i := 212) rfl rfl
abbrev ww_822 : Cond := .selects RX8 yX8_keep yX8_keep
theorem wi_822 : ww_822 ∈ mj_tb := mj_t3 (i := 213) rfl rfl
abbrev ww_823 : Cond := .code yX10_bridgeTo cX10_bridgeTo 5 (some .int)
theorem wi_823 : ww_823 ∈ mj_tb := mj_t4 (i := 84) rfl rfl
abbrev ww_824 : Cond := .instanceMethod yX10_bridgeTo
theorem wi_824 : ww_824 ∈ mj_tb := mj_t4 (i := 83) rfl rfl
abbrev ww_825 : Cond := .selects RX10 yX10_bridgeTo yX10_bridgeTo
theorem wi_825 : ww_825 ∈ mj_tb := mj_q2 (i := 2) rfl rfl rfl
abbrev ww_826 : Cond := .code yX10_canPay cX10_canPay 3 (some .boolean)
theorem wi_826 : ww_826 ∈ mj_tb := mj_t4 (i := 61) rfl rfl
abbrev ww_827 : Cond := .instanceMethod yX10_canPay
theorem wi_827 : ww_827 ∈ mj_tb := mj_t4 (i := 59) rfl rfl
abbrev ww_828 : Cond := .selects RX10 yX10_canPay yX10_canPay
theorem wi_828 : ww_828 ∈ mj_tb := mj_t4 (i := 60) rfl rfl
abbrev ww_829 : Cond := .code yX10_copy cX10_copy 3 none
theorem wi_829 : ww_829 ∈ mj_tb := mj_t5 (i := 28) rfl rfl
abbrev ww_830 : Cond := .instanceMethod yX10_copy
theorem wi_830 : ww_830 ∈ mj_tb := mj_t5 (i := 26) rfl rfl
abbrev ww_831 : Cond := .selects RX10 yX10_copy yX10_copy
theorem wi_831 : ww_831 ∈ mj_tb := mj_t5 (i := 27) rfl rfl
abbrev ww_832 : Cond := .code yX10_draw cX10_draw 6 none
theorem wi_832 : ww_832 ∈ mj_tb := mj_t5 (i := 122) rfl rfl
abbrev ww_833 : Cond := .instanceMethod yX10_draw
theorem wi_833 : ww_833 ∈ mj_tb := mj_t5 (i := 120) rfl rfl
abbrev ww_834 : Cond := .selects RX10 yX10_draw yX10_draw
theorem wi_834 : ww_834 ∈ mj_tb := mj_t5 (i := 121) rfl rfl
abbrev ww_835 : Cond := .code yX10_drink cX10_drink 6 none
theorem wi_835 : ww_835 ∈ mj_tb := mj_t4 (i := 100) rfl rfl
abbrev ww_836 : Cond := .instanceMethod yX10_drink
theorem wi_836 : ww_836 ∈ mj_tb := mj_t4 (i := 99) rfl rfl
abbrev ww_837 : Cond := .selects RX10 yX10_drink yX10_drink
theorem wi_837 : ww_837 ∈ mj_tb := mj_q2 (i := 5) rfl rfl rfl
abbrev ww_838 : Cond := .code yX10_goOn cX10_goOn 5 none
theorem wi_838 : ww_838 ∈ mj_tb := mj_t4 (i := 48) rfl rfl
abbrev ww_839 : Cond := .instanceMethod yX10_goOn
theorem wi_839 : ww_839 ∈ mj_tb := mj_t4 (i := 46) rfl rfl
abbrev ww_840 : Cond := .selects RX10 yX10_goOn yX10_goOn
theorem wi_840 : ww_840 ∈ mj_tb := mj_t4 (i := 47) rfl rfl
abbrev ww_841 : Cond := .code yX10_harvest cX10_harvest 3 none
theorem wi_841 : ww_841 ∈ mj_tb := mj_t4 (i := 108) rfl rfl
abbrev ww_842 : Cond := .instanceMethod yX10_harvest
theorem wi_842 : ww_842 ∈ mj_tb := mj_t4 (i := 107) rfl rfl
abbrev ww_843 : Cond := .selects RX10 yX10_harvest yX10_harvest
theorem wi_843 : ww_843 ∈ mj_tb := mj_q2 (i := 7) rfl rfl rfl
abbrev ww_844 : Cond := .code yX10_inPonds cX10_inPonds 3 (some .int)
theorem wi_844 : ww_844 ∈ mj_tb := mj_t4 (i := 120) rfl rfl
abbrev ww_845 : Cond := .instanceMethod yX10_inPonds
theorem wi_845 : ww_845 ∈ mj_tb := mj_t4 (i := 119) rfl rfl
abbrev ww_846 : Cond := .selects RX10 yX10_inPonds yX10_inPonds
theorem wi_846 : ww_846 ∈ mj_tb := mj_q2 (i := 8) rfl rfl rfl
abbrev ww_847 : Cond := .code yX10_init cX10_init 1 none
theorem wi_847 : ww_847 ∈ mj_tb := mj_t1 (i := 233) rfl rfl
abbrev ww_848 : Cond := .instanceMethod yX10_init
theorem wi_848 : ww_848 ∈ mj_tb := mj_t1 (i := 232) rfl rfl
abbrev ww_849 : Cond := .code yX10_lacks cX10_lacks 3 (some .boolean)
theorem wi_849 : ww_849 ∈ mj_tb := mj_t5 (i := 75) rfl rfl
abbrev ww_850 : Cond := .instanceMethod yX10_lacks
theorem wi_850 : ww_850 ∈ mj_tb := mj_t5 (i := 73) rfl rfl
abbrev ww_851 : Cond := .selects RX10 yX10_lacks yX10_lacks
theorem wi_851 : ww_851 ∈ mj_tb := mj_t5 (i := 74) rfl rfl
abbrev ww_852 : Cond := .code yX10_leakFrom cX10_leakFrom 3 none
theorem wi_852 : ww_852 ∈ mj_tb := mj_t5 (i := 34) rfl rfl
abbrev ww_853 : Cond := .instanceMethod yX10_leakFrom
theorem wi_853 : ww_853 ∈ mj_tb := mj_t5 (i := 32) rfl rfl
abbrev ww_854 : Cond := .selects RX10 yX10_leakFrom yX10_leakFrom
theorem wi_854 : ww_854 ∈ mj_tb := mj_t5 (i := 33) rfl rfl
abbrev ww_855 : Cond := .code yX10_leastBid cX10_leastBid 7 (some .int)
theorem wi_855 : ww_855 ∈ mj_tb := mj_t5 (i := 136) rfl rfl
abbrev ww_856 : Cond := .instanceMethod yX10_leastBid
theorem wi_856 : ww_856 ∈ mj_tb := mj_t5 (i := 134) rfl rfl
abbrev ww_857 : Cond := .selects RX10 yX10_leastBid yX10_leastBid
theorem wi_857 : ww_857 ∈ mj_tb := mj_t5 (i := 135) rfl rfl
abbrev ww_858 : Cond := .code yX10_letByBids cX10_letByBids 6 none
theorem wi_858 : ww_858 ∈ mj_tb := mj_t4 (i := 69) rfl rfl
abbrev ww_859 : Cond := .instanceMethod yX10_letByBids
theorem wi_859 : ww_859 ∈ mj_tb := mj_t4 (i := 68) rfl rfl
abbrev ww_860 : Cond := .selects RX10 yX10_letByBids yX10_letByBids
theorem wi_860 : ww_860 ∈ mj_tb := mj_q2 (i := 0) rfl rfl rfl
abbrev ww_861 : Cond := .code yX10_letByContract cX10_letByContract 7 none
theorem wi_861 : ww_861 ∈ mj_tb := mj_t4 (i := 57) rfl rfl
abbrev ww_862 : Cond := .instanceMethod yX10_letByContract
theorem wi_862 : ww_862 ∈ mj_tb := mj_t4 (i := 56) rfl rfl
abbrev ww_863 : Cond := .selects RX10 yX10_letByContract yX10_letByContract
theorem wi_863 : ww_863 ∈ mj_tb := mj_q1 (i := 14) rfl rfl rfl
abbrev ww_864 : Cond := .code yX10_moveRiver cX10_moveRiver 5 none
theorem wi_864 : ww_864 ∈ mj_tb := mj_t4 (i := 73) rfl rfl
abbrev ww_865 : Cond := .instanceMethod yX10_moveRiver
theorem wi_865 : ww_865 ∈ mj_tb := mj_t4 (i := 72) rfl rfl
abbrev ww_866 : Cond := .selects RX10 yX10_moveRiver yX10_moveRiver
theorem wi_866 : ww_866 ∈ mj_tb := mj_q2 (i := 1) rfl rfl rfl
abbrev ww_867 : Cond := .code yX10_nextMonth cX10_nextMonth 5 none
theorem wi_867 : ww_867 ∈ mj_tb := mj_t4 (i := 52) rfl rfl
abbrev ww_868 : Cond := .instanceMethod yX10_nextMonth
theorem wi_868 : ww_868 ∈ mj_tb := mj_t4 (i := 50) rfl rfl
abbrev ww_869 : Cond := .selects RX10 yX10_nextMonth yX10_nextMonth
theorem wi_869 : ww_869 ∈ mj_tb := mj_t4 (i := 51) rfl rfl
abbrev ww_870 : Cond := .code yX10_number cX10_number 2 (some .int)
theorem wi_870 : ww_870 ∈ mj_tb := mj_t4 (i := 116) rfl rfl
abbrev ww_871 : Cond := .instanceMethod yX10_number
theorem wi_871 : ww_871 ∈ mj_tb := mj_t4 (i := 114) rfl rfl
abbrev ww_872 : Cond := .selects RX10 yX10_number yX10_number
theorem wi_872 : ww_872 ∈ mj_tb := mj_t4 (i := 115) rfl rfl
abbrev ww_873 : Cond := .code yX10_pay cX10_pay 3 none
theorem wi_873 : ww_873 ∈ mj_tb := mj_t4 (i := 65) rfl rfl
abbrev ww_874 : Cond := .instanceMethod yX10_pay
theorem wi_874 : ww_874 ∈ mj_tb := mj_t4 (i := 64) rfl rfl
abbrev ww_875 : Cond := .selects RX10 yX10_pay yX10_pay
theorem wi_875 : ww_875 ∈ mj_tb := mj_q1 (i := 15) rfl rfl rfl
abbrev ww_876 : Cond := .code yX10_pour cX10_pour 6 none
theorem wi_876 : ww_876 ∈ mj_tb := mj_t4 (i := 91) rfl rfl
abbrev ww_877 : Cond := .instanceMethod yX10_pour
theorem wi_877 : ww_877 ∈ mj_tb := mj_t4 (i := 90) rfl rfl
abbrev ww_878 : Cond := .selects RX10 yX10_pour yX10_pour
theorem wi_878 : ww_878 ∈ mj_tb := mj_q2 (i := 3) rfl rfl rfl
abbrev ww_879 : Cond := .code yX10_pourTo cX10_pourTo 8 none
theorem wi_879 : ww_879 ∈ mj_tb := mj_t4 (i := 95) rfl rfl
abbrev ww_880 : Cond := .instanceMethod yX10_pourTo
theorem wi_880 : ww_880 ∈ mj_tb := mj_t4 (i := 94) rfl rfl
abbrev ww_881 : Cond := .selects RX10 yX10_pourTo yX10_pourTo
theorem wi_881 : ww_881 ∈ mj_tb := mj_q2 (i := 4) rfl rfl rfl
abbrev ww_882 : Cond := .code yX10_start cX10_start 4 none
theorem wi_882 : ww_882 ∈ mj_tb := mj_t4 (i := 40) rfl rfl
abbrev ww_883 : Cond := .instanceMethod yX10_start
theorem wi_883 : ww_883 ∈ mj_tb := mj_t4 (i := 38) rfl rfl
abbrev ww_884 : Cond := .selects RX10 yX10_start yX10_start
theorem wi_884 : ww_884 ∈ mj_tb := mj_t4 (i := 39) rfl rfl
abbrev ww_885 : Cond := .code yX10_waterField cX10_waterField 5 none
theorem wi_885 : ww_885 ∈ mj_tb := mj_t4 (i := 104) rfl rfl
abbrev ww_886 : Cond := .instanceMethod yX10_waterField
theorem wi_886 : ww_886 ∈ mj_tb := mj_t4 (i := 103) rfl rfl
abbrev ww_887 : Cond := .selects RX10 yX10_waterField yX10_waterField
theorem wi_887 : ww_887 ∈ mj_tb := mj_q2 (i := 6) rfl rfl rfl
abbrev ww_888 : Cond := .code yX11_begin cX11_begin 1 (some .boolean)
theorem wi_888 : ww_888 ∈ mj_tb := mj_t4 (i := 36) rfl rfl
abbrev ww_889 : Cond := .initialized RX11
theorem wi_889 : ww_889 ∈ mj_tb := mj_t1 (i := 1) rfl rfl
abbrev ww_890 : Cond := .instanceMethod yX11_begin
theorem wi_890 : ww_890 ∈ mj_tb := mj_t4 (i := 34) rfl rfl
abbrev ww_891 : Cond := .selects RX11 yX11_begin yX11_begin
theorem wi_891 : ww_891 ∈ mj_tb := mj_t4 (i := 35) rfl rfl
abbrev ww_892 : Cond := .code yX11_bid cX11_bid 3 (some .int)
theorem wi_892 : ww_892 ∈ mj_tb := mj_t3 (i := 199) rfl rfl
abbrev ww_893 : Cond := .instanceMethod yX11_bid
theorem wi_893 : ww_893 ∈ mj_tb := mj_t3 (i := 197) rfl rfl
abbrev ww_894 : Cond := .selects RX11 yX11_bid yX11_bid
theorem wi_894 : ww_894 ∈ mj_tb := mj_t3 (i := 198) rfl rfl
abbrev ww_895 : Cond := .code yX11_bidsOf cX11_bidsOf 4 (some .int)
theorem wi_895 : ww_895 ∈ mj_tb := mj_t5 (i := 79) rfl rfl
abbrev ww_896 : Cond := .instanceMethod yX11_bidsOf
theorem wi_896 : ww_896 ∈ mj_tb := mj_t5 (i := 77) rfl rfl
abbrev ww_897 : Cond := .selects RX11 yX11_bidsOf yX11_bidsOf
theorem wi_897 : ww_897 ∈ mj_tb := mj_t5 (i := 78) rfl rfl
abbrev ww_898 : Cond := .code yX11_byteAt cX11_byteAt 2 (some .int)
theorem wi_898 : ww_898 ∈ mj_tb := mj_t5 (i := 105) rfl rfl
abbrev ww_899 : Cond := .instanceMethod yX11_byteAt
theorem wi_899 : ww_899 ∈ mj_tb := mj_t5 (i := 103) rfl rfl
abbrev ww_900 : Cond := .selects RX11 yX11_byteAt yX11_byteAt
theorem wi_900 : ww_900 ∈ mj_tb := mj_t5 (i := 104) rfl rfl
abbrev ww_901 : Cond := .code yX11_cheapest cX11_cheapest 1 (some .int)
theorem wi_901 : ww_901 ∈ mj_tb := mj_t4 (i := 136) rfl rfl
abbrev ww_902 : Cond := .instanceMethod yX11_cheapest
theorem wi_902 : ww_902 ∈ mj_tb := mj_t4 (i := 134) rfl rfl
abbrev ww_903 : Cond := .selects RX11 yX11_cheapest yX11_cheapest
theorem wi_903 : ww_903 ∈ mj_tb := mj_t4 (i := 135) rfl rfl
abbrev ww_904 : Cond := .code yX11_closeTape cX11_closeTape 2 (some .int)
theorem wi_904 : ww_904 ∈ mj_tb := mj_t3 (i := 191) rfl rfl
abbrev ww_905 : Cond := .instanceMethod yX11_closeTape
theorem wi_905 : ww_905 ∈ mj_tb := mj_t3 (i := 190) rfl rfl
abbrev ww_906 : Cond := .selects RX11 yX11_closeTape yX11_closeTape
theorem wi_906 : ww_906 ∈ mj_tb := mj_q1 (i := 10) rfl rfl rfl
abbrev ww_907 : Cond := .code yX11_contract cX11_contract 3 (some .int)
theorem wi_907 : ww_907 ∈ mj_tb := mj_t4 (i := 31) rfl rfl
abbrev ww_908 : Cond := .instanceMethod yX11_contract
theorem wi_908 : ww_908 ∈ mj_tb := mj_t4 (i := 29) rfl rfl
abbrev ww_909 : Cond := .selects RX11 yX11_contract yX11_contract
theorem wi_909 : ww_909 ∈ mj_tb := mj_t4 (i := 30) rfl rfl
abbrev ww_910 : Cond := .code yX11_contracts cX11_contracts 2 (some .int)
theorem wi_910 : ww_910 ∈ mj_tb := mj_t3 (i := 235) rfl rfl
abbrev ww_911 : Cond := .instanceMethod yX11_contracts
theorem wi_911 : ww_911 ∈ mj_tb := mj_t3 (i := 233) rfl rfl
abbrev ww_912 : Cond := .selects RX11 yX11_contracts yX11_contracts
theorem wi_912 : ww_912 ∈ mj_tb := mj_t3 (i := 234) rfl rfl
abbrev ww_913 : Cond := .code yX11_count cX11_count 2 (some .int)
theorem wi_913 : ww_913 ∈ mj_tb := mj_t6 (i := 4) rfl rfl
abbrev ww_914 : Cond := .instanceMethod yX11_count
theorem wi_914 : ww_914 ∈ mj_tb := mj_t6 (i := 2) rfl rfl
abbrev ww_915 : Cond := .selects RX11 yX11_count yX11_count
theorem wi_915 : ww_915 ∈ mj_tb := mj_t6 (i := 3) rfl rfl
abbrev ww_916 : Cond := .code yX11_drawn cX11_drawn 2 (some .int)
theorem wi_916 : ww_916 ∈ mj_tb := mj_t5 (i := 118) rfl rfl
abbrev ww_917 : Cond := .instanceMethod yX11_drawn
theorem wi_917 : ww_917 ∈ mj_tb := mj_t5 (i := 116) rfl rfl
abbrev ww_918 : Cond := .selects RX11 yX11_drawn yX11_drawn
theorem wi_918 : ww_918 ∈ mj_tb := mj_t5 (i := 117) rfl rfl
abbrev ww_919 : Cond := .code yX11_droughts cX11_droughts 3 (some .int)
theorem wi_919 : ww_919 ∈ mj_tb := mj_t4 (i := 132) rfl rfl
abbrev ww_920 : Cond := .instanceMethod yX11_droughts
theorem wi_920 : ww_920 ∈ mj_tb := mj_t4 (i := 130) rfl rfl
abbrev ww_921 : Cond := .selects RX11 yX11_droughts yX11_droughts
theorem wi_921 : ww_921 ∈ mj_tb := mj_t4 (i := 131) rfl rfl
abbrev ww_922 : Cond := .code yX11_end cX11_end 2 (some .boolean)
theorem wi_922 : ww_922 ∈ mj_tb := mj_t3 (i := 36) rfl rfl
abbrev ww_923 : Cond := .instanceMethod yX11_end
theorem wi_923 : ww_923 ∈ mj_tb := mj_t3 (i := 34) rfl rfl
abbrev ww_924 : Cond := .selects RX11 yX11_end yX11_end
theorem wi_924 : ww_924 ∈ mj_tb := mj_t3 (i := 35) rfl rfl
abbrev ww_925 : Cond := .code yX11_enough cX11_enough 6 (some .int)
theorem wi_925 : ww_925 ∈ mj_tb := mj_t5 (i := 54) rfl rfl
abbrev ww_926 : Cond := .instanceMethod yX11_enough
theorem wi_926 : ww_926 ∈ mj_tb := mj_t5 (i := 52) rfl rfl
abbrev ww_927 : Cond := .selects RX11 yX11_enough yX11_enough
theorem wi_927 : ww_927 ∈ mj_tb := mj_t5 (i := 53) rfl rfl
abbrev ww_928 : Cond := .code yX11_fault cX11_fault 1 (some .int)
theorem wi_928 : ww_928 ∈ mj_tb := mj_t3 (i := 195) rfl rfl
abbrev ww_929 : Cond := .instanceMethod yX11_fault
theorem wi_929 : ww_929 ∈ mj_tb := mj_t3 (i := 193) rfl rfl
abbrev ww_930 : Cond := .selects RX11 yX11_fault yX11_fault
theorem wi_930 : ww_930 ∈ mj_tb := mj_t3 (i := 194) rfl rfl
abbrev ww_931 : Cond := .code yX11_feed cX11_feed 6 (some .int)
theorem wi_931 : ww_931 ∈ mj_tb := mj_t3 (i := 24) rfl rfl
abbrev ww_932 : Cond := .instanceMethod yX11_feed
theorem wi_932 : ww_932 ∈ mj_tb := mj_t3 (i := 22) rfl rfl
abbrev ww_933 : Cond := .selects RX11 yX11_feed yX11_feed
theorem wi_933 : ww_933 ∈ mj_tb := mj_t3 (i := 23) rfl rfl
abbrev ww_934 : Cond := .code yX11_greatest cX11_greatest 5 (some .int)
theorem wi_934 : ww_934 ∈ mj_tb := mj_t5 (i := 83) rfl rfl
abbrev ww_935 : Cond := .instanceMethod yX11_greatest
theorem wi_935 : ww_935 ∈ mj_tb := mj_t5 (i := 81) rfl rfl
abbrev ww_936 : Cond := .selects RX11 yX11_greatest yX11_greatest
theorem wi_936 : ww_936 ∈ mj_tb := mj_t5 (i := 82) rfl rfl
abbrev ww_937 : Cond := .code yX11_has cX11_has 2 (some .int)
theorem wi_937 : ww_937 ∈ mj_tb := mj_t5 (i := 2) rfl rfl
abbrev ww_938 : Cond := .instanceMethod yX11_has
theorem wi_938 : ww_938 ∈ mj_tb := mj_t5 (i := 0) rfl rfl
abbrev ww_939 : Cond := .selects RX11 yX11_has yX11_has
theorem wi_939 : ww_939 ∈ mj_tb := mj_t5 (i := 1) rfl rfl
abbrev ww_940 : Cond := .code yX11_image cX11_image 2 (some .boolean)
theorem wi_940 : ww_940 ∈ mj_tb := mj_t5 (i := 221) rfl rfl
abbrev ww_941 : Cond := .instanceMethod yX11_image
theorem wi_941 : ww_941 ∈ mj_tb := mj_t5 (i := 219) rfl rfl
abbrev ww_942 : Cond := .selects RX11 yX11_image yX11_image
theorem wi_942 : ww_942 ∈ mj_tb := mj_t5 (i := 220) rfl rfl
abbrev ww_943 : Cond := .code yX11_init cX11_init 2 none
theorem wi_943 : ww_943 ∈ mj_tb := mj_t1 (i := 25) rfl rfl
abbrev ww_944 : Cond := .instanceMethod yX11_init
theorem wi_944 : ww_944 ∈ mj_tb := mj_t1 (i := 24) rfl rfl
abbrev ww_945 : Cond := .code yX11_isMonth cX11_isMonth 1 (some .boolean)
theorem wi_945 : ww_945 ∈ mj_tb := mj_t3 (i := 206) rfl rfl
abbrev ww_946 : Cond := .static yX11_isMonth
theorem wi_946 : ww_946 ∈ mj_tb := mj_t3 (i := 205) rfl rfl
abbrev ww_947 : Cond := .code yX11_isTown cX11_isTown 2 (some .boolean)
theorem wi_947 : ww_947 ∈ mj_tb := mj_t3 (i := 203) rfl rfl
abbrev ww_948 : Cond := .instanceMethod yX11_isTown
theorem wi_948 : ww_948 ∈ mj_tb := mj_t3 (i := 202) rfl rfl
abbrev ww_949 : Cond := .selects RX11 yX11_isTown yX11_isTown
theorem wi_949 : ww_949 ∈ mj_tb := mj_q1 (i := 11) rfl rfl rfl
abbrev ww_950 : Cond := .code yX11_leak cX11_leak 3 (some .int)
theorem wi_950 : ww_950 ∈ mj_tb := mj_t5 (i := 46) rfl rfl
abbrev ww_951 : Cond := .instanceMethod yX11_leak
theorem wi_951 : ww_951 ∈ mj_tb := mj_t5 (i := 44) rfl rfl
abbrev ww_952 : Cond := .selects RX11 yX11_leak yX11_leak
theorem wi_952 : ww_952 ∈ mj_tb := mj_t5 (i := 45) rfl rfl
abbrev ww_953 : Cond := .code yX11_leaks cX11_leaks 2 (some .int)
theorem wi_953 : ww_953 ∈ mj_tb := mj_t5 (i := 10) rfl rfl
abbrev ww_954 : Cond := .instanceMethod yX11_leaks
theorem wi_954 : ww_954 ∈ mj_tb := mj_t5 (i := 8) rfl rfl
abbrev ww_955 : Cond := .selects RX11 yX11_leaks yX11_leaks
theorem wi_955 : ww_955 ∈ mj_tb := mj_t5 (i := 9) rfl rfl
abbrev ww_956 : Cond := .code yX11_let cX11_let 3 (some .int)
theorem wi_956 : ww_956 ∈ mj_tb := mj_t4 (i := 128) rfl rfl
abbrev ww_957 : Cond := .instanceMethod yX11_let
theorem wi_957 : ww_957 ∈ mj_tb := mj_t4 (i := 126) rfl rfl
abbrev ww_958 : Cond := .selects RX11 yX11_let yX11_let
theorem wi_958 : ww_958 ∈ mj_tb := mj_t4 (i := 127) rfl rfl
abbrev ww_959 : Cond := .code yX11_mostGain cX11_mostGain 7 (some .int)
theorem wi_959 : ww_959 ∈ mj_tb := mj_t5 (i := 58) rfl rfl
abbrev ww_960 : Cond := .instanceMethod yX11_mostGain
theorem wi_960 : ww_960 ∈ mj_tb := mj_t5 (i := 57) rfl rfl
abbrev ww_961 : Cond := .selects RX11 yX11_mostGain yX11_mostGain
theorem wi_961 : ww_961 ∈ mj_tb := mj_q3 (i := 14) rfl rfl rfl
abbrev ww_962 : Cond := .code yX11_must cX11_must 4 (some .int)
theorem wi_962 : ww_962 ∈ mj_tb := mj_t5 (i := 131) rfl rfl
abbrev ww_963 : Cond := .instanceMethod yX11_must
theorem wi_963 : ww_963 ∈ mj_tb := mj_t5 (i := 129) rfl rfl
abbrev ww_964 : Cond := .selects RX11 yX11_must yX11_must
theorem wi_964 : ww_964 ∈ mj_tb := mj_t5 (i := 130) rfl rfl
abbrev ww_965 : Cond := .code yX11_offer cX11_offer 5 (some .boolean)
theorem wi_965 : ww_965 ∈ mj_tb := mj_t3 (i := 210) rfl rfl
abbrev ww_966 : Cond := .instanceMethod yX11_offer
theorem wi_966 : ww_966 ∈ mj_tb := mj_t3 (i := 208) rfl rfl
abbrev ww_967 : Cond := .selects RX11 yX11_offer yX11_offer
theorem wi_967 : ww_967 ∈ mj_tb := mj_t3 (i := 209) rfl rfl
abbrev ww_968 : Cond := .code yX11_on cX11_on 3 (some .int)
theorem wi_968 : ww_968 ∈ mj_tb := mj_t4 (i := 44) rfl rfl
abbrev ww_969 : Cond := .instanceMethod yX11_on
theorem wi_969 : ww_969 ∈ mj_tb := mj_t4 (i := 42) rfl rfl
abbrev ww_970 : Cond := .selects RX11 yX11_on yX11_on
theorem wi_970 : ww_970 ∈ mj_tb := mj_t4 (i := 43) rfl rfl
abbrev ww_971 : Cond := .code yX11_plain cX11_plain 3 (some .int)
theorem wi_971 : ww_971 ∈ mj_tb := mj_t3 (i := 40) rfl rfl
abbrev ww_972 : Cond := .instanceMethod yX11_plain
theorem wi_972 : ww_972 ∈ mj_tb := mj_t3 (i := 38) rfl rfl
abbrev ww_973 : Cond := .selects RX11 yX11_plain yX11_plain
theorem wi_973 : ww_973 ∈ mj_tb := mj_t3 (i := 39) rfl rfl
abbrev ww_974 : Cond := .code yX11_plan cX11_plan 2 (some .int)
theorem wi_974 : ww_974 ∈ mj_tb := mj_t4 (i := 213) rfl rfl
abbrev ww_975 : Cond := .instanceMethod yX11_plan
theorem wi_975 : ww_975 ∈ mj_tb := mj_t4 (i := 211) rfl rfl
abbrev ww_976 : Cond := .selects RX11 yX11_plan yX11_plan
theorem wi_976 : ww_976 ∈ mj_tb := mj_t4 (i := 212) rfl rfl
abbrev ww_977 : Cond := .code yX11_price cX11_price 2 (some .int)
theorem wi_977 : ww_977 ∈ mj_tb := mj_t5 (i := 6) rfl rfl
abbrev ww_978 : Cond := .instanceMethod yX11_price
theorem wi_978 : ww_978 ∈ mj_tb := mj_t5 (i := 4) rfl rfl
abbrev ww_979 : Cond := .selects RX11 yX11_price yX11_price
theorem wi_979 : ww_979 ∈ mj_tb := mj_t5 (i := 5) rfl rfl
abbrev ww_980 : Cond := .code yX11_putByte cX11_putByte 2 none
theorem wi_980 : ww_980 ∈ mj_tb := mj_t5 (i := 95) rfl rfl
abbrev ww_981 : Cond := .instanceMethod yX11_putByte
theorem wi_981 : ww_981 ∈ mj_tb := mj_t5 (i := 94) rfl rfl
abbrev ww_982 : Cond := .selects RX11 yX11_putByte yX11_putByte
theorem wi_982 : ww_982 ∈ mj_tb := mj_q4 (i := 1) rfl rfl rfl
abbrev ww_983 : Cond := .code yX11_putNumber cX11_putNumber 2 none
theorem wi_983 : ww_983 ∈ mj_tb := mj_t5 (i := 91) rfl rfl
abbrev ww_984 : Cond := .instanceMethod yX11_putNumber
theorem wi_984 : ww_984 ∈ mj_tb := mj_t5 (i := 90) rfl rfl
abbrev ww_985 : Cond := .selects RX11 yX11_putNumber yX11_putNumber
theorem wi_985 : ww_985 ∈ mj_tb := mj_q4 (i := 0) rfl rfl rfl
abbrev ww_986 : Cond := .code yX11_putTenant cX11_putTenant 6 none
theorem wi_986 : ww_986 ∈ mj_tb := mj_t5 (i := 99) rfl rfl
abbrev ww_987 : Cond := .instanceMethod yX11_putTenant
theorem wi_987 : ww_987 ∈ mj_tb := mj_t5 (i := 98) rfl rfl
abbrev ww_988 : Cond := .selects RX11 yX11_putTenant yX11_putTenant
theorem wi_988 : ww_988 ∈ mj_tb := mj_q4 (i := 2) rfl rfl rfl
abbrev ww_989 : Cond := .code yX11_restore cX11_restore 2 (some .boolean)
theorem wi_989 : ww_989 ∈ mj_tb := mj_t6 (i := 0) rfl rfl
abbrev ww_990 : Cond := .instanceMethod yX11_restore
theorem wi_990 : ww_990 ∈ mj_tb := mj_t5 (i := 238) rfl rfl
abbrev ww_991 : Cond := .selects RX11 yX11_restore yX11_restore
theorem wi_991 : ww_991 ∈ mj_tb := mj_t5 (i := 239) rfl rfl
abbrev ww_992 : Cond := .code yX11_rounds cX11_rounds 2 (some .int)
theorem wi_992 : ww_992 ∈ mj_tb := mj_t4 (i := 222) rfl rfl
abbrev ww_993 : Cond := .instanceMethod yX11_rounds
theorem wi_993 : ww_993 ∈ mj_tb := mj_t4 (i := 220) rfl rfl
abbrev ww_994 : Cond := .selects RX11 yX11_rounds yX11_rounds
theorem wi_994 : ww_994 ∈ mj_tb := mj_t4 (i := 221) rfl rfl
abbrev ww_995 : Cond := .code yX11_said cX11_said 4 (some .int)
theorem wi_995 : ww_995 ∈ mj_tb := mj_t5 (i := 208) rfl rfl
abbrev ww_996 : Cond := .instanceMethod yX11_said
theorem wi_996 : ww_996 ∈ mj_tb := mj_t5 (i := 206) rfl rfl
abbrev ww_997 : Cond := .selects RX11 yX11_said yX11_said
theorem wi_997 : ww_997 ∈ mj_tb := mj_t5 (i := 207) rfl rfl
abbrev ww_998 : Cond := .code yX11_sentence cX11_sentence 2 (some .int)
theorem wi_998 : ww_998 ∈ mj_tb := mj_t5 (i := 140) rfl rfl
abbrev ww_999 : Cond := .instanceMethod yX11_sentence
theorem wi_999 : ww_999 ∈ mj_tb := mj_t5 (i := 138) rfl rfl
abbrev ww_1000 : Cond := .selects RX11 yX11_sentence yX11_sentence
theorem wi_1000 : ww_1000 ∈ mj_tb := mj_t5 (i := 139) rfl rfl
abbrev ww_1001 : Cond := .code yX11_shores cX11_shores 6 (some .int)
theorem wi_1001 : ww_1001 ∈ mj_tb := mj_t5 (i := 127) rfl rfl
abbrev ww_1002 : Cond := .instanceMethod yX11_shores
theorem wi_1002 : ww_1002 ∈ mj_tb := mj_t5 (i := 125) rfl rfl
abbrev ww_1003 : Cond := .selects RX11 yX11_shores yX11_shores
theorem wi_1003 : ww_1003 ∈ mj_tb := mj_t5 (i := 126) rfl rfl
abbrev ww_1004 : Cond := .code yX11_shoresOf cX11_shoresOf 3 (some .int)
theorem wi_1004 : ww_1004 ∈ mj_tb := mj_t5 (i := 63) rfl rfl
abbrev ww_1005 : Cond := .instanceMethod yX11_shoresOf
theorem wi_1005 : ww_1005 ∈ mj_tb := mj_t5 (i := 61) rfl rfl
abbrev ww_1006 : Cond := .selects RX11 yX11_shoresOf yX11_shoresOf
theorem wi_1006 : ww_1006 ∈ mj_tb := mj_t5 (i := 62) rfl rfl
abbrev ww_1007 : Cond := .code yX11_take cX11_take 3 (some .boolean)
theorem wi_1007 : ww_1007 ∈ mj_tb := mj_t4 (i := 217) rfl rfl
abbrev ww_1008 : Cond := .instanceMethod yX11_take
theorem wi_1008 : ww_1008 ∈ mj_tb := mj_t4 (i := 215) rfl rfl
abbrev ww_1009 : Cond := .selects RX11 yX11_take yX11_take
theorem wi_1009 : ww_1009 ∈ mj_tb := mj_t4 (i := 216) rfl rfl
abbrev ww_1010 : Cond := .code yX11_thirsty cX11_thirsty 3 (some .int)
theorem wi_1010 : ww_1010 ∈ mj_tb := mj_t5 (i := 71) rfl rfl
abbrev ww_1011 : Cond := .instanceMethod yX11_thirsty
theorem wi_1011 : ww_1011 ∈ mj_tb := mj_t5 (i := 69) rfl rfl
abbrev ww_1012 : Cond := .selects RX11 yX11_thirsty yX11_thirsty
theorem wi_1012 : ww_1012 ∈ mj_tb := mj_t5 (i := 70) rfl rfl
abbrev ww_1013 : Cond := .code yX11_town cX11_town 3 (some .int)
theorem wi_1013 : ww_1013 ∈ mj_tb := mj_t4 (i := 124) rfl rfl
abbrev ww_1014 : Cond := .instanceMethod yX11_town
theorem wi_1014 : ww_1014 ∈ mj_tb := mj_t4 (i := 122) rfl rfl
abbrev ww_1015 : Cond := .selects RX11 yX11_town yX11_town
theorem wi_1015 : ww_1015 ∈ mj_tb := mj_t4 (i := 123) rfl rfl
abbrev ww_1016 : Cond := .code yX11_tryYear cX11_tryYear 2 none
theorem wi_1016 : ww_1016 ∈ mj_tb := mj_t5 (i := 67) rfl rfl
abbrev ww_1017 : Cond := .instanceMethod yX11_tryYear
theorem wi_1017 : ww_1017 ∈ mj_tb := mj_t5 (i := 66) rfl rfl
abbrev ww_1018 : Cond := .selects RX11 yX11_tryYear yX11_tryYear
theorem wi_1018 : ww_1018 ∈ mj_tb := mj_q3 (i := 15) rfl rfl rfl
abbrev ww_1019 : Cond := .code yX11_undo cX11_undo 1 (some .int)
theorem wi_1019 : ww_1019 ∈ mj_tb := mj_t3 (i := 222) rfl rfl
abbrev ww_1020 : Cond := .instanceMethod yX11_undo
theorem wi_1020 : ww_1020 ∈ mj_tb := mj_t3 (i := 220) rfl rfl
abbrev ww_1021 : Cond := .selects RX11 yX11_undo yX11_undo
theorem wi_1021 : ww_1021 ∈ mj_tb := mj_t3 (i := 221) rfl rfl
abbrev ww_1022 : Cond := .code yX11_water cX11_water 2 (some .int)
theorem wi_1022 : ww_1022 ∈ mj_tb := mj_t3 (i := 231) rfl rfl
abbrev ww_1023 : Cond := .instanceMethod yX11_water
theorem wi_1023 : ww_1023 ∈ mj_tb := mj_t3 (i := 229) rfl rfl
abbrev ww_1024 : Cond := .selects RX11 yX11_water yX11_water
theorem wi_1024 : ww_1024 ∈ mj_tb := mj_t3 (i := 230) rfl rfl
abbrev ww_1025 : Cond := .code yX11_wettest cX11_wettest 4 (some .int)
theorem wi_1025 : ww_1025 ∈ mj_tb := mj_t5 (i := 50) rfl rfl
abbrev ww_1026 : Cond := .instanceMethod yX11_wettest
theorem wi_1026 : ww_1026 ∈ mj_tb := mj_t5 (i := 48) rfl rfl
abbrev ww_1027 : Cond := .selects RX11 yX11_wettest yX11_wettest
theorem wi_1027 : ww_1027 ∈ mj_tb := mj_t5 (i := 49) rfl rfl
abbrev ww_1028 : Cond := .code yX11_worth cX11_worth 4 (some .int)
theorem wi_1028 : ww_1028 ∈ mj_tb := mj_t5 (i := 109) rfl rfl
abbrev ww_1029 : Cond := .instanceMethod yX11_worth
theorem wi_1029 : ww_1029 ∈ mj_tb := mj_t5 (i := 107) rfl rfl
abbrev ww_1030 : Cond := .selects RX11 yX11_worth yX11_worth
theorem wi_1030 : ww_1030 ∈ mj_tb := mj_t5 (i := 108) rfl rfl
abbrev ww_1031 : Cond := .code yX11_write cX11_write 2 (some .int)
theorem wi_1031 : ww_1031 ∈ mj_tb := mj_t5 (i := 87) rfl rfl
abbrev ww_1032 : Cond := .instanceMethod yX11_write
theorem wi_1032 : ww_1032 ∈ mj_tb := mj_t5 (i := 85) rfl rfl
abbrev ww_1033 : Cond := .selects RX11 yX11_write yX11_write
theorem wi_1033 : ww_1033 ∈ mj_tb := mj_t5 (i := 86) rfl rfl
abbrev ww_1034 : Cond := .code yX11_year cX11_year 2 (some .int)
theorem wi_1034 : ww_1034 ∈ mj_tb := mj_t4 (i := 112) rfl rfl
abbrev ww_1035 : Cond := .instanceMethod yX11_year
theorem wi_1035 : ww_1035 ∈ mj_tb := mj_t4 (i := 110) rfl rfl
abbrev ww_1036 : Cond := .selects RX11 yX11_year yX11_year
theorem wi_1036 : ww_1036 ∈ mj_tb := mj_t4 (i := 111) rfl rfl
abbrev ww_1037 : Cond := .code yX12_areLevels cX12_areLevels 7 (some .boolean)
theorem wi_1037 : ww_1037 ∈ mj_tb := mj_t8 (i := 89) rfl rfl
abbrev ww_1038 : Cond := .initialized RX12
theorem wi_1038 : ww_1038 ∈ mj_tb := mj_t1 (i := 12) rfl rfl
abbrev ww_1039 : Cond := .instanceMethod yX12_areLevels
theorem wi_1039 : ww_1039 ∈ mj_tb := mj_t8 (i := 88) rfl rfl
abbrev ww_1040 : Cond := .selects RX12 yX12_areLevels yX12_areLevels
theorem wi_1040 : ww_1040 ∈ mj_tb := mj_q7 (i := 1) rfl rfl rfl
abbrev ww_1041 : Cond := .code yX12_bad cX12_bad 2 (some .boolean)
theorem wi_1041 : ww_1041 ∈ mj_tb := mj_t7 (i := 108) rfl rfl
abbrev ww_1042 : Cond := .instanceMethod yX12_bad
theorem wi_1042 : ww_1042 ∈ mj_tb := mj_t7 (i := 107) rfl rfl
abbrev ww_1043 : Cond := .selects RX12 yX12_bad yX12_bad
theorem wi_1043 : ww_1043 ∈ mj_tb := mj_q5 (i := 2) rfl rfl rfl
abbrev ww_1044 : Cond := .code yX12_begin cX12_begin 1 (some .boolean)
theorem wi_1044 : ww_1044 ∈ mj_tb := mj_t7 (i := 205) rfl rfl
abbrev ww_1045 : Cond := .instanceMethod yX12_begin
theorem wi_1045 : ww_1045 ∈ mj_tb := mj_t7 (i := 203) rfl rfl
abbrev ww_1046 : Cond := .selects RX12 yX12_begin yX12_begin
theorem wi_1046 : ww_1046 ∈ mj_tb := mj_t7 (i := 204) rfl rfl
abbrev ww_1047 : Cond := .code yX12_begins cX12_begins 2 none
theorem wi_1047 : ww_1047 ∈ mj_tb := mj_t7 (i := 209) rfl rfl
abbrev ww_1048 : Cond := .instanceMethod yX12_begins
theorem wi_1048 : ww_1048 ∈ mj_tb := mj_t7 (i := 208) rfl rfl
abbrev ww_1049 : Cond := .selects RX12 yX12_begins yX12_begins
theorem wi_1049 : ww_1049 ∈ mj_tb := mj_q6 (i := 0) rfl rfl rfl
abbrev ww_1050 : Cond := .code yX12_behind cX12_behind 1 (some .boolean)
theorem wi_1050 : ww_1050 ∈ mj_tb := mj_t8 (i := 187) rfl rfl
abbrev ww_1051 : Cond := .instanceMethod yX12_behind
theorem wi_1051 : ww_1051 ∈ mj_tb := mj_t8 (i := 186) rfl rfl
abbrev ww_1052 : Cond := .selects RX12 yX12_behind yX12_behind
theorem wi_1052 : ww_1052 ∈ mj_tb := mj_q7 (i := 11) rfl rfl rfl
abbrev ww_1053 : Cond := .code yX12_bid cX12_bid 3 (some .int)
theorem wi_1053 : ww_1053 ∈ mj_tb := mj_t7 (i := 166) rfl rfl
abbrev ww_1054 : Cond := .instanceMethod yX12_bid
theorem wi_1054 : ww_1054 ∈ mj_tb := mj_t7 (i := 164) rfl rfl
abbrev ww_1055 : Cond := .selects RX12 yX12_bid yX12_bid
theorem wi_1055 : ww_1055 ∈ mj_tb := mj_t7 (i := 165) rfl rfl
abbrev ww_1056 : Cond := .code yX12_bidMany cX12_bidMany 3 (some .int)
theorem wi_1056 : ww_1056 ∈ mj_tb := mj_t7 (i := 185) rfl rfl
abbrev ww_1057 : Cond := .instanceMethod yX12_bidMany
theorem wi_1057 : ww_1057 ∈ mj_tb := mj_t7 (i := 184) rfl rfl
abbrev ww_1058 : Cond := .selects RX12 yX12_bidMany yX12_bidMany
theorem wi_1058 : ww_1058 ∈ mj_tb := mj_q5 (i := 14) rfl rfl rfl
abbrev ww_1059 : Cond := .code yX12_bidOf cX12_bidOf 3 (some .int)
theorem wi_1059 : ww_1059 ∈ mj_tb := mj_t7 (i := 173) rfl rfl
abbrev ww_1060 : Cond := .instanceMethod yX12_bidOf
theorem wi_1060 : ww_1060 ∈ mj_tb := mj_t7 (i := 172) rfl rfl
abbrev ww_1061 : Cond := .selects RX12 yX12_bidOf yX12_bidOf
theorem wi_1061 : ww_1061 ∈ mj_tb := mj_q5 (i := 13) rfl rfl rfl
abbrev ww_1062 : Cond := .code yX12_bidsOf cX12_bidsOf 4 (some .int)
theorem wi_1062 : ww_1062 ∈ mj_tb := mj_t8 (i := 126) rfl rfl
abbrev ww_1063 : Cond := .instanceMethod yX12_bidsOf
theorem wi_1063 : ww_1063 ∈ mj_tb := mj_t8 (i := 124) rfl rfl
abbrev ww_1064 : Cond := .selects RX12 yX12_bidsOf yX12_bidsOf
theorem wi_1064 : ww_1064 ∈ mj_tb := mj_t8 (i := 125) rfl rfl
abbrev ww_1065 : Cond := .code yX12_bitOf cX12_bitOf 2 (some .boolean)
theorem wi_1065 : ww_1065 ∈ mj_tb := mj_t7 (i := 126) rfl rfl
abbrev ww_1066 : Cond := .static yX12_bitOf
theorem wi_1066 : ww_1066 ∈ mj_tb := mj_t7 (i := 125) rfl rfl
abbrev ww_1067 : Cond := .code yX12_byteAt cX12_byteAt 2 (some .int)
theorem wi_1067 : ww_1067 ∈ mj_tb := mj_t8 (i := 151) rfl rfl
abbrev ww_1068 : Cond := .instanceMethod yX12_byteAt
theorem wi_1068 : ww_1068 ∈ mj_tb := mj_t8 (i := 149) rfl rfl
abbrev ww_1069 : Cond := .selects RX12 yX12_byteAt yX12_byteAt
theorem wi_1069 : ww_1069 ∈ mj_tb := mj_t8 (i := 150) rfl rfl
abbrev ww_1070 : Cond := .code yX12_canBe cX12_canBe 5 (some .boolean)
theorem wi_1070 : ww_1070 ∈ mj_tb := mj_t8 (i := 41) rfl rfl
abbrev ww_1071 : Cond := .instanceMethod yX12_canBe
theorem wi_1071 : ww_1071 ∈ mj_tb := mj_t8 (i := 40) rfl rfl
abbrev ww_1072 : Cond := .selects RX12 yX12_canBe yX12_canBe
theorem wi_1072 : ww_1072 ∈ mj_tb := mj_q6 (i := 11) rfl rfl rfl
abbrev ww_1073 : Cond := .code yX12_canPay cX12_canPay 3 (some .boolean)
theorem wi_1073 : ww_1073 ∈ mj_tb := mj_t7 (i := 225) rfl rfl
abbrev ww_1074 : Cond := .instanceMethod yX12_canPay
theorem wi_1074 : ww_1074 ∈ mj_tb := mj_t7 (i := 224) rfl rfl
abbrev ww_1075 : Cond := .selects RX12 yX12_canPay yX12_canPay
theorem wi_1075 : ww_1075 ∈ mj_tb := mj_q6 (i := 3) rfl rfl rfl
abbrev ww_1076 : Cond := .code yX12_cheapest cX12_cheapest 5 (some .int)
theorem wi_1076 : ww_1076 ∈ mj_tb := mj_t8 (i := 36) rfl rfl
abbrev ww_1077 : Cond := .instanceMethod yX12_cheapest
theorem wi_1077 : ww_1077 ∈ mj_tb := mj_t8 (i := 34) rfl rfl
abbrev ww_1078 : Cond := .selects RX12 yX12_cheapest yX12_cheapest
theorem wi_1078 : ww_1078 ∈ mj_tb := mj_t8 (i := 35) rfl rfl
abbrev ww_1079 : Cond := .code yX12_code cX12_code 4 none
theorem wi_1079 : ww_1079 ∈ mj_tb := mj_t8 (i := 179) rfl rfl
abbrev ww_1080 : Cond := .instanceMethod yX12_code
theorem wi_1080 : ww_1080 ∈ mj_tb := mj_t8 (i := 178) rfl rfl
abbrev ww_1081 : Cond := .selects RX12 yX12_code yX12_code
theorem wi_1081 : ww_1081 ∈ mj_tb := mj_q7 (i := 9) rfl rfl rfl
abbrev ww_1082 : Cond := .code yX12_comes cX12_comes 6 none
theorem wi_1082 : ww_1082 ∈ mj_tb := mj_t8 (i := 12) rfl rfl
abbrev ww_1083 : Cond := .instanceMethod yX12_comes
theorem wi_1083 : ww_1083 ∈ mj_tb := mj_t8 (i := 11) rfl rfl
abbrev ww_1084 : Cond := .selects RX12 yX12_comes yX12_comes
theorem wi_1084 : ww_1084 ∈ mj_tb := mj_q6 (i := 9) rfl rfl rfl
abbrev ww_1085 : Cond := .code yX12_contract cX12_contract 3 (some .int)
theorem wi_1085 : ww_1085 ∈ mj_tb := mj_t7 (i := 201) rfl rfl
abbrev ww_1086 : Cond := .instanceMethod yX12_contract
theorem wi_1086 : ww_1086 ∈ mj_tb := mj_t7 (i := 199) rfl rfl
abbrev ww_1087 : Cond := .selects RX12 yX12_contract yX12_contract
theorem wi_1087 : ww_1087 ∈ mj_tb := mj_t7 (i := 200) rfl rfl
abbrev ww_1088 : Cond := .code yX12_contracts cX12_contracts 3 (some .int)
theorem wi_1088 : ww_1088 ∈ mj_tb := mj_t7 (i := 193) rfl rfl
abbrev ww_1089 : Cond := .instanceMethod yX12_contracts
theorem wi_1089 : ww_1089 ∈ mj_tb := mj_t7 (i := 191) rfl rfl
abbrev ww_1090 : Cond := .selects RX12 yX12_contracts yX12_contracts
theorem wi_1090 : ww_1090 ∈ mj_tb := mj_t7 (i := 192) rfl rfl
abbrev ww_1091 : Cond := .code yX12_costOf cX12_costOf 4 (some .int)
theorem wi_1091 : ww_1091 ∈ mj_tb := mj_t8 (i := 49) rfl rfl
abbrev ww_1092 : Cond := .instanceMethod yX12_costOf
theorem wi_1092 : ww_1092 ∈ mj_tb := mj_t8 (i := 48) rfl rfl
abbrev ww_1093 : Cond := .selects RX12 yX12_costOf yX12_costOf
theorem wi_1093 : ww_1093 ∈ mj_tb := mj_q6 (i := 13) rfl rfl rfl
abbrev ww_1094 : Cond := .code yX12_count cX12_count 2 (some .int)
theorem wi_1094 : ww_1094 ∈ mj_tb := mj_t8 (i := 219) rfl rfl
abbrev ww_1095 : Cond := .instanceMethod yX12_count
theorem wi_1095 : ww_1095 ∈ mj_tb := mj_t8 (i := 217) rfl rfl
abbrev ww_1096 : Cond := .selects RX12 yX12_count yX12_count
theorem wi_1096 : ww_1096 ∈ mj_tb := mj_t8 (i := 218) rfl rfl
abbrev ww_1097 : Cond := .code yX12_dealRow cX12_dealRow 5 (some .boolean)
theorem wi_1097 : ww_1097 ∈ mj_tb := mj_t7 (i := 197) rfl rfl
abbrev ww_1098 : Cond := .instanceMethod yX12_dealRow
theorem wi_1098 : ww_1098 ∈ mj_tb := mj_t7 (i := 196) rfl rfl
abbrev ww_1099 : Cond := .selects RX12 yX12_dealRow yX12_dealRow
theorem wi_1099 : ww_1099 ∈ mj_tb := mj_q5 (i := 15) rfl rfl rfl
abbrev ww_1100 : Cond := .code yX12_draw cX12_draw 2 (some .int)
theorem wi_1100 : ww_1100 ∈ mj_tb := mj_t8 (i := 117) rfl rfl
abbrev ww_1101 : Cond := .instanceMethod yX12_draw
theorem wi_1101 : ww_1101 ∈ mj_tb := mj_t8 (i := 116) rfl rfl
abbrev ww_1102 : Cond := .selects RX12 yX12_draw yX12_draw
theorem wi_1102 : ww_1102 ∈ mj_tb := mj_q7 (i := 4) rfl rfl rfl
abbrev ww_1103 : Cond := .code yX12_drawn cX12_drawn 3 (some .int)
theorem wi_1103 : ww_1103 ∈ mj_tb := mj_t8 (i := 159) rfl rfl
abbrev ww_1104 : Cond := .instanceMethod yX12_drawn
theorem wi_1104 : ww_1104 ∈ mj_tb := mj_t8 (i := 157) rfl rfl
abbrev ww_1105 : Cond := .selects RX12 yX12_drawn yX12_drawn
theorem wi_1105 : ww_1105 ∈ mj_tb := mj_t8 (i := 158) rfl rfl
abbrev ww_1106 : Cond := .code yX12_droughts cX12_droughts 3 (some .int)
theorem wi_1106 : ww_1106 ∈ mj_tb := mj_t8 (i := 32) rfl rfl
abbrev ww_1107 : Cond := .instanceMethod yX12_droughts
theorem wi_1107 : ww_1107 ∈ mj_tb := mj_t8 (i := 30) rfl rfl
abbrev ww_1108 : Cond := .selects RX12 yX12_droughts yX12_droughts
theorem wi_1108 : ww_1108 ∈ mj_tb := mj_t8 (i := 31) rfl rfl
abbrev ww_1109 : Cond := .code yX12_end cX12_end 2 (some .boolean)
theorem wi_1109 : ww_1109 ∈ mj_tb := mj_t6 (i := 94) rfl rfl
abbrev ww_1110 : Cond := .instanceMethod yX12_end
theorem wi_1110 : ww_1110 ∈ mj_tb := mj_t6 (i := 92) rfl rfl
abbrev ww_1111 : Cond := .selects RX12 yX12_end yX12_end
theorem wi_1111 : ww_1111 ∈ mj_tb := mj_t6 (i := 93) rfl rfl
abbrev ww_1112 : Cond := .code yX12_enough cX12_enough 7 (some .int)
theorem wi_1112 : ww_1112 ∈ mj_tb := mj_t8 (i := 105) rfl rfl
abbrev ww_1113 : Cond := .instanceMethod yX12_enough
theorem wi_1113 : ww_1113 ∈ mj_tb := mj_t8 (i := 103) rfl rfl
abbrev ww_1114 : Cond := .selects RX12 yX12_enough yX12_enough
theorem wi_1114 : ww_1114 ∈ mj_tb := mj_t8 (i := 104) rfl rfl
abbrev ww_1115 : Cond := .code yX12_fault cX12_fault 1 (some .int)
theorem wi_1115 : ww_1115 ∈ mj_tb := mj_t7 (i := 146) rfl rfl
abbrev ww_1116 : Cond := .instanceMethod yX12_fault
theorem wi_1116 : ww_1116 ∈ mj_tb := mj_t7 (i := 144) rfl rfl
abbrev ww_1117 : Cond := .selects RX12 yX12_fault yX12_fault
theorem wi_1117 : ww_1117 ∈ mj_tb := mj_t7 (i := 145) rfl rfl
abbrev ww_1118 : Cond := .code yX12_feed cX12_feed 6 (some .int)
theorem wi_1118 : ww_1118 ∈ mj_tb := mj_t6 (i := 85) rfl rfl
abbrev ww_1119 : Cond := .instanceMethod yX12_feed
theorem wi_1119 : ww_1119 ∈ mj_tb := mj_t6 (i := 83) rfl rfl
abbrev ww_1120 : Cond := .selects RX12 yX12_feed yX12_feed
theorem wi_1120 : ww_1120 ∈ mj_tb := mj_t6 (i := 84) rfl rfl
abbrev ww_1121 : Cond := .code yX12_find cX12_find 4 (some .int)
theorem wi_1121 : ww_1121 ∈ mj_tb := mj_t7 (i := 116) rfl rfl
abbrev ww_1122 : Cond := .instanceMethod yX12_find
theorem wi_1122 : ww_1122 ∈ mj_tb := mj_t7 (i := 115) rfl rfl
abbrev ww_1123 : Cond := .selects RX12 yX12_find yX12_find
theorem wi_1123 : ww_1123 ∈ mj_tb := mj_q5 (i := 4) rfl rfl rfl
abbrev ww_1124 : Cond := .code yX12_forgets cX12_forgets 2 none
theorem wi_1124 : ww_1124 ∈ mj_tb := mj_t8 (i := 93) rfl rfl
abbrev ww_1125 : Cond := .instanceMethod yX12_forgets
theorem wi_1125 : ww_1125 ∈ mj_tb := mj_t8 (i := 92) rfl rfl
abbrev ww_1126 : Cond := .selects RX12 yX12_forgets yX12_forgets
theorem wi_1126 : ww_1126 ∈ mj_tb := mj_q7 (i := 2) rfl rfl rfl
abbrev ww_1127 : Cond := .code yX12_four cX12_four 3 none
theorem wi_1127 : ww_1127 ∈ mj_tb := mj_t6 (i := 90) rfl rfl
abbrev ww_1128 : Cond := .instanceMethod yX12_four
theorem wi_1128 : ww_1128 ∈ mj_tb := mj_t6 (i := 88) rfl rfl
abbrev ww_1129 : Cond := .selects RX12 yX12_four yX12_four
theorem wi_1129 : ww_1129 ∈ mj_tb := mj_q4 (i := 11) rfl rfl rfl
abbrev ww_1130 : Cond := .code yX12_gains cX12_gains 3 (some .int)
theorem wi_1130 : ww_1130 ∈ mj_tb := mj_t8 (i := 45) rfl rfl
abbrev ww_1131 : Cond := .instanceMethod yX12_gains
theorem wi_1131 : ww_1131 ∈ mj_tb := mj_t8 (i := 44) rfl rfl
abbrev ww_1132 : Cond := .selects RX12 yX12_gains yX12_gains
theorem wi_1132 : ww_1132 ∈ mj_tb := mj_q6 (i := 12) rfl rfl rfl
abbrev ww_1133 : Cond := .code yX12_greatest cX12_greatest 4 (some .int)
theorem wi_1133 : ww_1133 ∈ mj_tb := mj_t8 (i := 130) rfl rfl
abbrev ww_1134 : Cond := .instanceMethod yX12_greatest
theorem wi_1134 : ww_1134 ∈ mj_tb := mj_t8 (i := 128) rfl rfl
abbrev ww_1135 : Cond := .selects RX12 yX12_greatest yX12_greatest
theorem wi_1135 : ww_1135 ∈ mj_tb := mj_t8 (i := 129) rfl rfl
abbrev ww_1136 : Cond := .code yX12_has cX12_has 2 (some .int)
theorem wi_1136 : ww_1136 ∈ mj_tb := mj_t8 (i := 69) rfl rfl
abbrev ww_1137 : Cond := .instanceMethod yX12_has
theorem wi_1137 : ww_1137 ∈ mj_tb := mj_t8 (i := 67) rfl rfl
abbrev ww_1138 : Cond := .selects RX12 yX12_has yX12_has
theorem wi_1138 : ww_1138 ∈ mj_tb := mj_t8 (i := 68) rfl rfl
abbrev ww_1139 : Cond := .code yX12_holderOf cX12_holderOf 3 (some .int)
theorem wi_1139 : ww_1139 ∈ mj_tb := mj_t8 (i := 65) rfl rfl
abbrev ww_1140 : Cond := .instanceMethod yX12_holderOf
theorem wi_1140 : ww_1140 ∈ mj_tb := mj_t8 (i := 64) rfl rfl
abbrev ww_1141 : Cond := .selects RX12 yX12_holderOf yX12_holderOf
theorem wi_1141 : ww_1141 ∈ mj_tb := mj_q6 (i := 14) rfl rfl rfl
abbrev ww_1142 : Cond := .code yX12_image cX12_image 3 (some .boolean)
theorem wi_1142 : ww_1142 ∈ mj_tb := mj_t8 (i := 211) rfl rfl
abbrev ww_1143 : Cond := .instanceMethod yX12_image
theorem wi_1143 : ww_1143 ∈ mj_tb := mj_t8 (i := 209) rfl rfl
abbrev ww_1144 : Cond := .selects RX12 yX12_image yX12_image
theorem wi_1144 : ww_1144 ∈ mj_tb := mj_t8 (i := 210) rfl rfl
abbrev ww_1145 : Cond := .code yX12_init cX12_init 1 none
theorem wi_1145 : ww_1145 ∈ mj_tb := mj_t6 (i := 98) rfl rfl
abbrev ww_1146 : Cond := .instanceMethod yX12_init
theorem wi_1146 : ww_1146 ∈ mj_tb := mj_t6 (i := 97) rfl rfl
abbrev ww_1147 : Cond := .code yX12_isDigit cX12_isDigit 1 (some .boolean)
theorem wi_1147 : ww_1147 ∈ mj_tb := mj_t7 (i := 92) rfl rfl
abbrev ww_1148 : Cond := .static yX12_isDigit
theorem wi_1148 : ww_1148 ∈ mj_tb := mj_t7 (i := 91) rfl rfl
abbrev ww_1149 : Cond := .code yX12_isIn cX12_isIn 3 (some .boolean)
theorem wi_1149 : ww_1149 ∈ mj_tb := mj_t7 (i := 123) rfl rfl
abbrev ww_1150 : Cond := .static yX12_isIn
theorem wi_1150 : ww_1150 ∈ mj_tb := mj_t7 (i := 122) rfl rfl
abbrev ww_1151 : Cond := .code yX12_isLeaf cX12_isLeaf 6 (some .boolean)
theorem wi_1151 : ww_1151 ∈ mj_tb := mj_t8 (i := 207) rfl rfl
abbrev ww_1152 : Cond := .instanceMethod yX12_isLeaf
theorem wi_1152 : ww_1152 ∈ mj_tb := mj_t8 (i := 206) rfl rfl
abbrev ww_1153 : Cond := .selects RX12 yX12_isLeaf yX12_isLeaf
theorem wi_1153 : ww_1153 ∈ mj_tb := mj_q7 (i := 15) rfl rfl rfl
abbrev ww_1154 : Cond := .code yX12_isMonth cX12_isMonth 1 (some .boolean)
theorem wi_1154 : ww_1154 ∈ mj_tb := mj_t7 (i := 169) rfl rfl
abbrev ww_1155 : Cond := .static yX12_isMonth
theorem wi_1155 : ww_1155 ∈ mj_tb := mj_t7 (i := 168) rfl rfl
abbrev ww_1156 : Cond := .code yX12_isName cX12_isName 3 (some .boolean)
theorem wi_1156 : ww_1156 ∈ mj_tb := mj_t7 (i := 112) rfl rfl
abbrev ww_1157 : Cond := .instanceMethod yX12_isName
theorem wi_1157 : ww_1157 ∈ mj_tb := mj_t7 (i := 111) rfl rfl
abbrev ww_1158 : Cond := .selects RX12 yX12_isName yX12_isName
theorem wi_1158 : ww_1158 ∈ mj_tb := mj_q5 (i := 3) rfl rfl rfl
abbrev ww_1159 : Cond := .code yX12_isSaid cX12_isSaid 5 (some .boolean)
theorem wi_1159 : ww_1159 ∈ mj_tb := mj_t8 (i := 203) rfl rfl
abbrev ww_1160 : Cond := .instanceMethod yX12_isSaid
theorem wi_1160 : ww_1160 ∈ mj_tb := mj_t8 (i := 202) rfl rfl
abbrev ww_1161 : Cond := .selects RX12 yX12_isSaid yX12_isSaid
theorem wi_1161 : ww_1161 ∈ mj_tb := mj_q7 (i := 14) rfl rfl rfl
abbrev ww_1162 : Cond := .code yX12_isSign cX12_isSign 2 (some .boolean)
theorem wi_1162 : ww_1162 ∈ mj_tb := mj_t7 (i := 142) rfl rfl
abbrev ww_1163 : Cond := .instanceMethod yX12_isSign
theorem wi_1163 : ww_1163 ∈ mj_tb := mj_t7 (i := 141) rfl rfl
abbrev ww_1164 : Cond := .selects RX12 yX12_isSign yX12_isSign
theorem wi_1164 : ww_1164 ∈ mj_tb := mj_q5 (i := 9) rfl rfl rfl
abbrev ww_1165 : Cond := .code yX12_isSmall cX12_isSmall 1 (some .boolean)
theorem wi_1165 : ww_1165 ∈ mj_tb := mj_t7 (i := 89) rfl rfl
abbrev ww_1166 : Cond := .static yX12_isSmall
theorem wi_1166 : ww_1166 ∈ mj_tb := mj_t7 (i := 88) rfl rfl
abbrev ww_1167 : Cond := .code yX12_isTown cX12_isTown 2 (some .boolean)
theorem wi_1167 : ww_1167 ∈ mj_tb := mj_t7 (i := 154) rfl rfl
abbrev ww_1168 : Cond := .instanceMethod yX12_isTown
theorem wi_1168 : ww_1168 ∈ mj_tb := mj_t7 (i := 153) rfl rfl
abbrev ww_1169 : Cond := .selects RX12 yX12_isTown yX12_isTown
theorem wi_1169 : ww_1169 ∈ mj_tb := mj_q5 (i := 10) rfl rfl rfl
abbrev ww_1170 : Cond := .code yX12_isWord cX12_isWord 3 (some .boolean)
theorem wi_1170 : ww_1170 ∈ mj_tb := mj_t7 (i := 100) rfl rfl
abbrev ww_1171 : Cond := .instanceMethod yX12_isWord
theorem wi_1171 : ww_1171 ∈ mj_tb := mj_t7 (i := 99) rfl rfl
abbrev ww_1172 : Cond := .selects RX12 yX12_isWord yX12_isWord
theorem wi_1172 : ww_1172 ∈ mj_tb := mj_q5 (i := 0) rfl rfl rfl
abbrev ww_1173 : Cond := .code yX12_joins cX12_joins 2 none
theorem wi_1173 : ww_1173 ∈ mj_tb := mj_t8 (i := 183) rfl rfl
abbrev ww_1174 : Cond := .instanceMethod yX12_joins
theorem wi_1174 : ww_1174 ∈ mj_tb := mj_t8 (i := 182) rfl rfl
abbrev ww_1175 : Cond := .selects RX12 yX12_joins yX12_joins
theorem wi_1175 : ww_1175 ∈ mj_tb := mj_q7 (i := 10) rfl rfl rfl
abbrev ww_1176 : Cond := .code yX12_leafOf cX12_leafOf 1 (some .int)
theorem wi_1176 : ww_1176 ∈ mj_tb := mj_t8 (i := 195) rfl rfl
abbrev ww_1177 : Cond := .instanceMethod yX12_leafOf
theorem wi_1177 : ww_1177 ∈ mj_tb := mj_t8 (i := 194) rfl rfl
abbrev ww_1178 : Cond := .selects RX12 yX12_leafOf yX12_leafOf
theorem wi_1178 : ww_1178 ∈ mj_tb := mj_q7 (i := 13) rfl rfl rfl
abbrev ww_1179 : Cond := .code yX12_leak cX12_leak 3 (some .int)
theorem wi_1179 : ww_1179 ∈ mj_tb := mj_t8 (i := 97) rfl rfl
abbrev ww_1180 : Cond := .instanceMethod yX12_leak
theorem wi_1180 : ww_1180 ∈ mj_tb := mj_t8 (i := 95) rfl rfl
abbrev ww_1181 : Cond := .selects RX12 yX12_leak yX12_leak
theorem wi_1181 : ww_1181 ∈ mj_tb := mj_t8 (i := 96) rfl rfl
abbrev ww_1182 : Cond := .code yX12_leaks cX12_leaks 7 (some .int)
theorem wi_1182 : ww_1182 ∈ mj_tb := mj_t8 (i := 77) rfl rfl
abbrev ww_1183 : Cond := .instanceMethod yX12_leaks
theorem wi_1183 : ww_1183 ∈ mj_tb := mj_t8 (i := 75) rfl rfl
abbrev ww_1184 : Cond := .selects RX12 yX12_leaks yX12_leaks
theorem wi_1184 : ww_1184 ∈ mj_tb := mj_t8 (i := 76) rfl rfl
abbrev ww_1185 : Cond := .code yX12_let cX12_let 3 (some .int)
theorem wi_1185 : ww_1185 ∈ mj_tb := mj_t8 (i := 28) rfl rfl
abbrev ww_1186 : Cond := .instanceMethod yX12_let
theorem wi_1186 : ww_1186 ∈ mj_tb := mj_t8 (i := 26) rfl rfl
abbrev ww_1187 : Cond := .selects RX12 yX12_let yX12_let
theorem wi_1187 : ww_1187 ∈ mj_tb := mj_t8 (i := 27) rfl rfl
abbrev ww_1188 : Cond := .code yX12_lets cX12_lets 6 none
theorem wi_1188 : ww_1188 ∈ mj_tb := mj_t7 (i := 221) rfl rfl
abbrev ww_1189 : Cond := .instanceMethod yX12_lets
theorem wi_1189 : ww_1189 ∈ mj_tb := mj_t7 (i := 220) rfl rfl
abbrev ww_1190 : Cond := .selects RX12 yX12_lets yX12_lets
theorem wi_1190 : ww_1190 ∈ mj_tb := mj_q6 (i := 2) rfl rfl rfl
abbrev ww_1191 : Cond := .code yX12_month cX12_month 7 none
theorem wi_1191 : ww_1191 ∈ mj_tb := mj_t7 (i := 217) rfl rfl
abbrev ww_1192 : Cond := .instanceMethod yX12_month
theorem wi_1192 : ww_1192 ∈ mj_tb := mj_t7 (i := 216) rfl rfl
abbrev ww_1193 : Cond := .selects RX12 yX12_month yX12_month
theorem wi_1193 : ww_1193 ∈ mj_tb := mj_q6 (i := 1) rfl rfl rfl
abbrev ww_1194 : Cond := .code yX12_more cX12_more 4 none
theorem wi_1194 : ww_1194 ∈ mj_tb := mj_t7 (i := 237) rfl rfl
abbrev ww_1195 : Cond := .instanceMethod yX12_more
theorem wi_1195 : ww_1195 ∈ mj_tb := mj_t7 (i := 236) rfl rfl
abbrev ww_1196 : Cond := .selects RX12 yX12_more yX12_more
theorem wi_1196 : ww_1196 ∈ mj_tb := mj_q6 (i := 6) rfl rfl rfl
abbrev ww_1197 : Cond := .code yX12_must cX12_must 7 (some .int)
theorem wi_1197 : ww_1197 ∈ mj_tb := mj_t8 (i := 167) rfl rfl
abbrev ww_1198 : Cond := .instanceMethod yX12_must
theorem wi_1198 : ww_1198 ∈ mj_tb := mj_t8 (i := 165) rfl rfl
abbrev ww_1199 : Cond := .selects RX12 yX12_must yX12_must
theorem wi_1199 : ww_1199 ∈ mj_tb := mj_t8 (i := 166) rfl rfl
abbrev ww_1200 : Cond := .code yX12_next cX12_next 4 none
theorem wi_1200 : ww_1200 ∈ mj_tb := mj_t7 (i := 82) rfl rfl
abbrev ww_1201 : Cond := .instanceMethod yX12_next
theorem wi_1201 : ww_1201 ∈ mj_tb := mj_t7 (i := 81) rfl rfl
abbrev ww_1202 : Cond := .selects RX12 yX12_next yX12_next
theorem wi_1202 : ww_1202 ∈ mj_tb := mj_q4 (i := 13) rfl rfl rfl
abbrev ww_1203 : Cond := .code yX12_nots cX12_nots 1 none
theorem wi_1203 : ww_1203 ∈ mj_tb := mj_t8 (i := 175) rfl rfl
abbrev ww_1204 : Cond := .instanceMethod yX12_nots
theorem wi_1204 : ww_1204 ∈ mj_tb := mj_t8 (i := 174) rfl rfl
abbrev ww_1205 : Cond := .selects RX12 yX12_nots yX12_nots
theorem wi_1205 : ww_1205 ∈ mj_tb := mj_q7 (i := 8) rfl rfl rfl
abbrev ww_1206 : Cond := .code yX12_octet cX12_octet 2 (some .int)
theorem wi_1206 : ww_1206 ∈ mj_tb := mj_t8 (i := 81) rfl rfl
abbrev ww_1207 : Cond := .instanceMethod yX12_octet
theorem wi_1207 : ww_1207 ∈ mj_tb := mj_t8 (i := 80) rfl rfl
abbrev ww_1208 : Cond := .selects RX12 yX12_octet yX12_octet
theorem wi_1208 : ww_1208 ∈ mj_tb := mj_q6 (i := 15) rfl rfl rfl
abbrev ww_1209 : Cond := .code yX12_of cX12_of 3 (some .int)
theorem wi_1209 : ww_1209 ∈ mj_tb := mj_t7 (i := 229) rfl rfl
abbrev ww_1210 : Cond := .instanceMethod yX12_of
theorem wi_1210 : ww_1210 ∈ mj_tb := mj_t7 (i := 228) rfl rfl
abbrev ww_1211 : Cond := .selects RX12 yX12_of yX12_of
theorem wi_1211 : ww_1211 ∈ mj_tb := mj_q6 (i := 4) rfl rfl rfl
abbrev ww_1212 : Cond := .code yX12_offer cX12_offer 5 (some .boolean)
theorem wi_1212 : ww_1212 ∈ mj_tb := mj_t7 (i := 181) rfl rfl
abbrev ww_1213 : Cond := .instanceMethod yX12_offer
theorem wi_1213 : ww_1213 ∈ mj_tb := mj_t7 (i := 179) rfl rfl
abbrev ww_1214 : Cond := .selects RX12 yX12_offer yX12_offer
theorem wi_1214 : ww_1214 ∈ mj_tb := mj_t7 (i := 180) rfl rfl
abbrev ww_1215 : Cond := .code yX12_on cX12_on 4 (some .int)
theorem wi_1215 : ww_1215 ∈ mj_tb := mj_t7 (i := 213) rfl rfl
abbrev ww_1216 : Cond := .instanceMethod yX12_on
theorem wi_1216 : ww_1216 ∈ mj_tb := mj_t7 (i := 211) rfl rfl
abbrev ww_1217 : Cond := .selects RX12 yX12_on yX12_on
theorem wi_1217 : ww_1217 ∈ mj_tb := mj_t7 (i := 212) rfl rfl
abbrev ww_1218 : Cond := .code yX12_operand cX12_operand 5 (some .boolean)
theorem wi_1218 : ww_1218 ∈ mj_tb := mj_t8 (i := 191) rfl rfl
abbrev ww_1219 : Cond := .instanceMethod yX12_operand
theorem wi_1219 : ww_1219 ∈ mj_tb := mj_t8 (i := 190) rfl rfl
abbrev ww_1220 : Cond := .selects RX12 yX12_operand yX12_operand
theorem wi_1220 : ww_1220 ∈ mj_tb := mj_q7 (i := 12) rfl rfl rfl
abbrev ww_1221 : Cond := .code yX12_pays cX12_pays 3 none
theorem wi_1221 : ww_1221 ∈ mj_tb := mj_t7 (i := 233) rfl rfl
abbrev ww_1222 : Cond := .instanceMethod yX12_pays
theorem wi_1222 : ww_1222 ∈ mj_tb := mj_t7 (i := 232) rfl rfl
abbrev ww_1223 : Cond := .selects RX12 yX12_pays yX12_pays
theorem wi_1223 : ww_1223 ∈ mj_tb := mj_q6 (i := 5) rfl rfl rfl
abbrev ww_1224 : Cond := .code yX12_peek cX12_peek 1 (some .int)
theorem wi_1224 : ww_1224 ∈ mj_tb := mj_t7 (i := 86) rfl rfl
abbrev ww_1225 : Cond := .instanceMethod yX12_peek
theorem wi_1225 : ww_1225 ∈ mj_tb := mj_t7 (i := 85) rfl rfl
abbrev ww_1226 : Cond := .selects RX12 yX12_peek yX12_peek
theorem wi_1226 : ww_1226 ∈ mj_tb := mj_q4 (i := 14) rfl rfl rfl
abbrev ww_1227 : Cond := .code yX12_placeOf cX12_placeOf 2 (some .int)
theorem wi_1227 : ww_1227 ∈ mj_tb := mj_t8 (i := 1) rfl rfl
abbrev ww_1228 : Cond := .instanceMethod yX12_placeOf
theorem wi_1228 : ww_1228 ∈ mj_tb := mj_t8 (i := 0) rfl rfl
abbrev ww_1229 : Cond := .selects RX12 yX12_placeOf yX12_placeOf
theorem wi_1229 : ww_1229 ∈ mj_tb := mj_q6 (i := 7) rfl rfl rfl
abbrev ww_1230 : Cond := .code yX12_plain cX12_plain 2 (some .int)
theorem wi_1230 : ww_1230 ∈ mj_tb := mj_t7 (i := 74) rfl rfl
abbrev ww_1231 : Cond := .instanceMethod yX12_plain
theorem wi_1231 : ww_1231 ∈ mj_tb := mj_t7 (i := 72) rfl rfl
abbrev ww_1232 : Cond := .selects RX12 yX12_plain yX12_plain
theorem wi_1232 : ww_1232 ∈ mj_tb := mj_t7 (i := 73) rfl rfl
abbrev ww_1233 : Cond := .code yX12_plan cX12_plan 2 (some .int)
theorem wi_1233 : ww_1233 ∈ mj_tb := mj_t8 (i := 53) rfl rfl
abbrev ww_1234 : Cond := .instanceMethod yX12_plan
theorem wi_1234 : ww_1234 ∈ mj_tb := mj_t8 (i := 51) rfl rfl
abbrev ww_1235 : Cond := .selects RX12 yX12_plan yX12_plan
theorem wi_1235 : ww_1235 ∈ mj_tb := mj_t8 (i := 52) rfl rfl
abbrev ww_1236 : Cond := .code yX12_price cX12_price 2 (some .int)
theorem wi_1236 : ww_1236 ∈ mj_tb := mj_t8 (i := 73) rfl rfl
abbrev ww_1237 : Cond := .instanceMethod yX12_price
theorem wi_1237 : ww_1237 ∈ mj_tb := mj_t8 (i := 71) rfl rfl
abbrev ww_1238 : Cond := .selects RX12 yX12_price yX12_price
theorem wi_1238 : ww_1238 ∈ mj_tb := mj_t8 (i := 72) rfl rfl
abbrev ww_1239 : Cond := .code yX12_put cX12_put 2 none
theorem wi_1239 : ww_1239 ∈ mj_tb := mj_t8 (i := 142) rfl rfl
abbrev ww_1240 : Cond := .instanceMethod yX12_put
theorem wi_1240 : ww_1240 ∈ mj_tb := mj_t8 (i := 141) rfl rfl
abbrev ww_1241 : Cond := .selects RX12 yX12_put yX12_put
theorem wi_1241 : ww_1241 ∈ mj_tb := mj_q7 (i := 6) rfl rfl rfl
abbrev ww_1242 : Cond := .code yX12_putName cX12_putName 4 none
theorem wi_1242 : ww_1242 ∈ mj_tb := mj_t8 (i := 146) rfl rfl
abbrev ww_1243 : Cond := .instanceMethod yX12_putName
theorem wi_1243 : ww_1243 ∈ mj_tb := mj_t8 (i := 145) rfl rfl
abbrev ww_1244 : Cond := .selects RX12 yX12_putName yX12_putName
theorem wi_1244 : ww_1244 ∈ mj_tb := mj_q7 (i := 7) rfl rfl rfl
abbrev ww_1245 : Cond := .code yX12_putNumber cX12_putNumber 2 none
theorem wi_1245 : ww_1245 ∈ mj_tb := mj_t8 (i := 138) rfl rfl
abbrev ww_1246 : Cond := .instanceMethod yX12_putNumber
theorem wi_1246 : ww_1246 ∈ mj_tb := mj_t8 (i := 137) rfl rfl
abbrev ww_1247 : Cond := .selects RX12 yX12_putNumber yX12_putNumber
theorem wi_1247 : ww_1247 ∈ mj_tb := mj_q7 (i := 5) rfl rfl rfl
abbrev ww_1248 : Cond := .code yX12_readBid cX12_readBid 3 (some .boolean)
theorem wi_1248 : ww_1248 ∈ mj_tb := mj_t7 (i := 130) rfl rfl
abbrev ww_1249 : Cond := .instanceMethod yX12_readBid
theorem wi_1249 : ww_1249 ∈ mj_tb := mj_t7 (i := 129) rfl rfl
abbrev ww_1250 : Cond := .selects RX12 yX12_readBid yX12_readBid
theorem wi_1250 : ww_1250 ∈ mj_tb := mj_q5 (i := 6) rfl rfl rfl
abbrev ww_1251 : Cond := .code yX12_readOf cX12_readOf 5 (some .boolean)
theorem wi_1251 : ww_1251 ∈ mj_tb := mj_t7 (i := 134) rfl rfl
abbrev ww_1252 : Cond := .instanceMethod yX12_readOf
theorem wi_1252 : ww_1252 ∈ mj_tb := mj_t7 (i := 133) rfl rfl
abbrev ww_1253 : Cond := .selects RX12 yX12_readOf yX12_readOf
theorem wi_1253 : ww_1253 ∈ mj_tb := mj_q5 (i := 7) rfl rfl rfl
abbrev ww_1254 : Cond := .code yX12_readTown cX12_readTown 3 (some .boolean)
theorem wi_1254 : ww_1254 ∈ mj_tb := mj_t7 (i := 104) rfl rfl
abbrev ww_1255 : Cond := .instanceMethod yX12_readTown
theorem wi_1255 : ww_1255 ∈ mj_tb := mj_t7 (i := 103) rfl rfl
abbrev ww_1256 : Cond := .selects RX12 yX12_readTown yX12_readTown
theorem wi_1256 : ww_1256 ∈ mj_tb := mj_q5 (i := 1) rfl rfl rfl
abbrev ww_1257 : Cond := .code yX12_restore cX12_restore 3 (some .boolean)
theorem wi_1257 : ww_1257 ∈ mj_tb := mj_t8 (i := 215) rfl rfl
abbrev ww_1258 : Cond := .instanceMethod yX12_restore
theorem wi_1258 : ww_1258 ∈ mj_tb := mj_t8 (i := 213) rfl rfl
abbrev ww_1259 : Cond := .selects RX12 yX12_restore yX12_restore
theorem wi_1259 : ww_1259 ∈ mj_tb := mj_t8 (i := 214) rfl rfl
abbrev ww_1260 : Cond := .code yX12_rounds cX12_rounds 9 (some .int)
theorem wi_1260 : ww_1260 ∈ mj_tb := mj_t8 (i := 61) rfl rfl
abbrev ww_1261 : Cond := .instanceMethod yX12_rounds
theorem wi_1261 : ww_1261 ∈ mj_tb := mj_t8 (i := 59) rfl rfl
abbrev ww_1262 : Cond := .selects RX12 yX12_rounds yX12_rounds
theorem wi_1262 : ww_1262 ∈ mj_tb := mj_t8 (i := 60) rfl rfl
abbrev ww_1263 : Cond := .code yX12_row cX12_row 2 (some .boolean)
theorem wi_1263 : ww_1263 ∈ mj_tb := mj_t7 (i := 96) rfl rfl
abbrev ww_1264 : Cond := .instanceMethod yX12_row
theorem wi_1264 : ww_1264 ∈ mj_tb := mj_t7 (i := 95) rfl rfl
abbrev ww_1265 : Cond := .selects RX12 yX12_row yX12_row
theorem wi_1265 : ww_1265 ∈ mj_tb := mj_q4 (i := 15) rfl rfl rfl
abbrev ww_1266 : Cond := .code yX12_said cX12_said 4 (some .int)
theorem wi_1266 : ww_1266 ∈ mj_tb := mj_t8 (i := 199) rfl rfl
abbrev ww_1267 : Cond := .instanceMethod yX12_said
theorem wi_1267 : ww_1267 ∈ mj_tb := mj_t8 (i := 197) rfl rfl
abbrev ww_1268 : Cond := .selects RX12 yX12_said yX12_said
theorem wi_1268 : ww_1268 ∈ mj_tb := mj_t8 (i := 198) rfl rfl
abbrev ww_1269 : Cond := .code yX12_sentence cX12_sentence 3 (some .int)
theorem wi_1269 : ww_1269 ∈ mj_tb := mj_t8 (i := 171) rfl rfl
abbrev ww_1270 : Cond := .instanceMethod yX12_sentence
theorem wi_1270 : ww_1270 ∈ mj_tb := mj_t8 (i := 169) rfl rfl
abbrev ww_1271 : Cond := .selects RX12 yX12_sentence yX12_sentence
theorem wi_1271 : ww_1271 ∈ mj_tb := mj_t8 (i := 170) rfl rfl
abbrev ww_1272 : Cond := .code yX12_shores cX12_shores 6 (some .int)
theorem wi_1272 : ww_1272 ∈ mj_tb := mj_t8 (i := 163) rfl rfl
abbrev ww_1273 : Cond := .instanceMethod yX12_shores
theorem wi_1273 : ww_1273 ∈ mj_tb := mj_t8 (i := 161) rfl rfl
abbrev ww_1274 : Cond := .selects RX12 yX12_shores yX12_shores
theorem wi_1274 : ww_1274 ∈ mj_tb := mj_t8 (i := 162) rfl rfl
abbrev ww_1275 : Cond := .code yX12_shoresOf cX12_shoresOf 3 (some .int)
theorem wi_1275 : ww_1275 ∈ mj_tb := mj_t8 (i := 109) rfl rfl
abbrev ww_1276 : Cond := .instanceMethod yX12_shoresOf
theorem wi_1276 : ww_1276 ∈ mj_tb := mj_t8 (i := 107) rfl rfl
abbrev ww_1277 : Cond := .selects RX12 yX12_shoresOf yX12_shoresOf
theorem wi_1277 : ww_1277 ∈ mj_tb := mj_t8 (i := 108) rfl rfl
abbrev ww_1278 : Cond := .code yX12_sign cX12_sign 2 (some .boolean)
theorem wi_1278 : ww_1278 ∈ mj_tb := mj_t7 (i := 138) rfl rfl
abbrev ww_1279 : Cond := .instanceMethod yX12_sign
theorem wi_1279 : ww_1279 ∈ mj_tb := mj_t7 (i := 137) rfl rfl
abbrev ww_1280 : Cond := .selects RX12 yX12_sign yX12_sign
theorem wi_1280 : ww_1280 ∈ mj_tb := mj_q5 (i := 8) rfl rfl rfl
abbrev ww_1281 : Cond := .code yX12_sizeOf cX12_sizeOf 1 (some .int)
theorem wi_1281 : ww_1281 ∈ mj_tb := mj_t8 (i := 4) rfl rfl
abbrev ww_1282 : Cond := .static yX12_sizeOf
theorem wi_1282 : ww_1282 ∈ mj_tb := mj_t8 (i := 3) rfl rfl
abbrev ww_1283 : Cond := .code yX12_take cX12_take 2 (some .boolean)
theorem wi_1283 : ww_1283 ∈ mj_tb := mj_t8 (i := 57) rfl rfl
abbrev ww_1284 : Cond := .instanceMethod yX12_take
theorem wi_1284 : ww_1284 ∈ mj_tb := mj_t8 (i := 55) rfl rfl
abbrev ww_1285 : Cond := .selects RX12 yX12_take yX12_take
theorem wi_1285 : ww_1285 ∈ mj_tb := mj_t8 (i := 56) rfl rfl
abbrev ww_1286 : Cond := .code yX12_taken cX12_taken 2 none
theorem wi_1286 : ww_1286 ∈ mj_tb := mj_t7 (i := 78) rfl rfl
abbrev ww_1287 : Cond := .instanceMethod yX12_taken
theorem wi_1287 : ww_1287 ∈ mj_tb := mj_t7 (i := 77) rfl rfl
abbrev ww_1288 : Cond := .selects RX12 yX12_taken yX12_taken
theorem wi_1288 : ww_1288 ∈ mj_tb := mj_q4 (i := 12) rfl rfl rfl
abbrev ww_1289 : Cond := .code yX12_takes cX12_takes 3 (some .boolean)
theorem wi_1289 : ww_1289 ∈ mj_tb := mj_t7 (i := 120) rfl rfl
abbrev ww_1290 : Cond := .instanceMethod yX12_takes
theorem wi_1290 : ww_1290 ∈ mj_tb := mj_t7 (i := 119) rfl rfl
abbrev ww_1291 : Cond := .selects RX12 yX12_takes yX12_takes
theorem wi_1291 : ww_1291 ∈ mj_tb := mj_q5 (i := 5) rfl rfl rfl
abbrev ww_1292 : Cond := .code yX12_thinks cX12_thinks 2 none
theorem wi_1292 : ww_1292 ∈ mj_tb := mj_t8 (i := 85) rfl rfl
abbrev ww_1293 : Cond := .instanceMethod yX12_thinks
theorem wi_1293 : ww_1293 ∈ mj_tb := mj_t8 (i := 84) rfl rfl
abbrev ww_1294 : Cond := .selects RX12 yX12_thinks yX12_thinks
theorem wi_1294 : ww_1294 ∈ mj_tb := mj_q7 (i := 0) rfl rfl rfl
abbrev ww_1295 : Cond := .code yX12_thirsty cX12_thirsty 3 (some .int)
theorem wi_1295 : ww_1295 ∈ mj_tb := mj_t8 (i := 122) rfl rfl
abbrev ww_1296 : Cond := .instanceMethod yX12_thirsty
theorem wi_1296 : ww_1296 ∈ mj_tb := mj_t8 (i := 120) rfl rfl
abbrev ww_1297 : Cond := .selects RX12 yX12_thirsty yX12_thirsty
theorem wi_1297 : ww_1297 ∈ mj_tb := mj_t8 (i := 121) rfl rfl
abbrev ww_1298 : Cond := .code yX12_throwsIf cX12_throwsIf 2 (some .boolean)
theorem wi_1298 : ww_1298 ∈ mj_tb := mj_t7 (i := 158) rfl rfl
abbrev ww_1299 : Cond := .instanceMethod yX12_throwsIf
theorem wi_1299 : ww_1299 ∈ mj_tb := mj_t7 (i := 157) rfl rfl
abbrev ww_1300 : Cond := .selects RX12 yX12_throwsIf yX12_throwsIf
theorem wi_1300 : ww_1300 ∈ mj_tb := mj_q5 (i := 11) rfl rfl rfl
abbrev ww_1301 : Cond := .code yX12_told cX12_told 3 (some .int)
theorem wi_1301 : ww_1301 ∈ mj_tb := mj_t7 (i := 150) rfl rfl
abbrev ww_1302 : Cond := .instanceMethod yX12_told
theorem wi_1302 : ww_1302 ∈ mj_tb := mj_t7 (i := 148) rfl rfl
abbrev ww_1303 : Cond := .selects RX12 yX12_told yX12_told
theorem wi_1303 : ww_1303 ∈ mj_tb := mj_t7 (i := 149) rfl rfl
abbrev ww_1304 : Cond := .code yX12_toldOf cX12_toldOf 3 (some .int)
theorem wi_1304 : ww_1304 ∈ mj_tb := mj_t7 (i := 162) rfl rfl
abbrev ww_1305 : Cond := .instanceMethod yX12_toldOf
theorem wi_1305 : ww_1305 ∈ mj_tb := mj_t7 (i := 161) rfl rfl
abbrev ww_1306 : Cond := .selects RX12 yX12_toldOf yX12_toldOf
theorem wi_1306 : ww_1306 ∈ mj_tb := mj_q5 (i := 12) rfl rfl rfl
abbrev ww_1307 : Cond := .code yX12_town cX12_town 3 (some .int)
theorem wi_1307 : ww_1307 ∈ mj_tb := mj_t8 (i := 24) rfl rfl
abbrev ww_1308 : Cond := .instanceMethod yX12_town
theorem wi_1308 : ww_1308 ∈ mj_tb := mj_t8 (i := 22) rfl rfl
abbrev ww_1309 : Cond := .selects RX12 yX12_town yX12_town
theorem wi_1309 : ww_1309 ∈ mj_tb := mj_t8 (i := 23) rfl rfl
abbrev ww_1310 : Cond := .code yX12_undo cX12_undo 1 (some .int)
theorem wi_1310 : ww_1310 ∈ mj_tb := mj_t7 (i := 189) rfl rfl
abbrev ww_1311 : Cond := .instanceMethod yX12_undo
theorem wi_1311 : ww_1311 ∈ mj_tb := mj_t7 (i := 187) rfl rfl
abbrev ww_1312 : Cond := .selects RX12 yX12_undo yX12_undo
theorem wi_1312 : ww_1312 ∈ mj_tb := mj_t7 (i := 188) rfl rfl
abbrev ww_1313 : Cond := .code yX12_uses cX12_uses 5 none
theorem wi_1313 : ww_1313 ∈ mj_tb := mj_t8 (i := 16) rfl rfl
abbrev ww_1314 : Cond := .instanceMethod yX12_uses
theorem wi_1314 : ww_1314 ∈ mj_tb := mj_t8 (i := 15) rfl rfl
abbrev ww_1315 : Cond := .selects RX12 yX12_uses yX12_uses
theorem wi_1315 : ww_1315 ∈ mj_tb := mj_q6 (i := 10) rfl rfl rfl
abbrev ww_1316 : Cond := .code yX12_wasLet cX12_wasLet 3 (some .boolean)
theorem wi_1316 : ww_1316 ∈ mj_tb := mj_t8 (i := 8) rfl rfl
abbrev ww_1317 : Cond := .instanceMethod yX12_wasLet
theorem wi_1317 : ww_1317 ∈ mj_tb := mj_t8 (i := 7) rfl rfl
abbrev ww_1318 : Cond := .selects RX12 yX12_wasLet yX12_wasLet
theorem wi_1318 : ww_1318 ∈ mj_tb := mj_q6 (i := 8) rfl rfl rfl
abbrev ww_1319 : Cond := .code yX12_water cX12_water 2 (some .int)
theorem wi_1319 : ww_1319 ∈ mj_tb := mj_t7 (i := 177) rfl rfl
abbrev ww_1320 : Cond := .instanceMethod yX12_water
theorem wi_1320 : ww_1320 ∈ mj_tb := mj_t7 (i := 175) rfl rfl
abbrev ww_1321 : Cond := .selects RX12 yX12_water yX12_water
theorem wi_1321 : ww_1321 ∈ mj_tb := mj_t7 (i := 176) rfl rfl
abbrev ww_1322 : Cond := .code yX12_wettest cX12_wettest 4 (some .int)
theorem wi_1322 : ww_1322 ∈ mj_tb := mj_t8 (i := 101) rfl rfl
abbrev ww_1323 : Cond := .instanceMethod yX12_wettest
theorem wi_1323 : ww_1323 ∈ mj_tb := mj_t8 (i := 99) rfl rfl
abbrev ww_1324 : Cond := .selects RX12 yX12_wettest yX12_wettest
theorem wi_1324 : ww_1324 ∈ mj_tb := mj_t8 (i := 100) rfl rfl
abbrev ww_1325 : Cond := .code yX12_wholeYear cX12_wholeYear 3 none
theorem wi_1325 : ww_1325 ∈ mj_tb := mj_t8 (i := 113) rfl rfl
abbrev ww_1326 : Cond := .instanceMethod yX12_wholeYear
theorem wi_1326 : ww_1326 ∈ mj_tb := mj_t8 (i := 112) rfl rfl
abbrev ww_1327 : Cond := .selects RX12 yX12_wholeYear yX12_wholeYear
theorem wi_1327 : ww_1327 ∈ mj_tb := mj_q7 (i := 3) rfl rfl rfl
abbrev ww_1328 : Cond := .code yX12_worth cX12_worth 5 (some .int)
theorem wi_1328 : ww_1328 ∈ mj_tb := mj_t8 (i := 155) rfl rfl
abbrev ww_1329 : Cond := .instanceMethod yX12_worth
theorem wi_1329 : ww_1329 ∈ mj_tb := mj_t8 (i := 153) rfl rfl
abbrev ww_1330 : Cond := .selects RX12 yX12_worth yX12_worth
theorem wi_1330 : ww_1330 ∈ mj_tb := mj_t8 (i := 154) rfl rfl
abbrev ww_1331 : Cond := .code yX12_write cX12_write 2 (some .int)
theorem wi_1331 : ww_1331 ∈ mj_tb := mj_t8 (i := 134) rfl rfl
abbrev ww_1332 : Cond := .instanceMethod yX12_write
theorem wi_1332 : ww_1332 ∈ mj_tb := mj_t8 (i := 132) rfl rfl
abbrev ww_1333 : Cond := .selects RX12 yX12_write yX12_write
theorem wi_1333 : ww_1333 ∈ mj_tb := mj_t8 (i := 133) rfl rfl
abbrev ww_1334 : Cond := .code yX12_year cX12_year 4 (some .int)
theorem wi_1334 : ww_1334 ∈ mj_tb := mj_t8 (i := 20) rfl rfl
abbrev ww_1335 : Cond := .instanceMethod yX12_year
theorem wi_1335 : ww_1335 ∈ mj_tb := mj_t8 (i := 18) rfl rfl
abbrev ww_1336 : Cond := .selects RX12 yX12_year yX12_year
theorem wi_1336 : ww_1336 ∈ mj_tb := mj_t8 (i := 19) rfl rfl
abbrev ww_1337 : Cond := .code yX9_find cX9_find 3 (some (.object "RentRiver$Word"))
theorem wi_1337 : ww_1337 ∈ mj_tb := mj_t3 (i := 76) rfl rfl
abbrev ww_1338 : Cond := .initialized RX9
theorem wi_1338 : ww_1338 ∈ mj_tb := mj_t1 (i := 15) rfl rfl
abbrev ww_1339 : Cond := .static yX9_find
theorem wi_1339 : ww_1339 ∈ mj_tb := mj_t3 (i := 75) rfl rfl
abbrev ww_1340 : Cond := .code yX9_isAboutTown cX9_isAboutTown 1 (some .boolean)
theorem wi_1340 : ww_1340 ∈ mj_tb := mj_t3 (i := 138) rfl rfl
abbrev ww_1341 : Cond := .instanceMethod yX9_isAboutTown
theorem wi_1341 : ww_1341 ∈ mj_tb := mj_t3 (i := 136) rfl rfl
abbrev ww_1342 : Cond := .selects RX9 yX9_isAboutTown yX9_isAboutTown
theorem wi_1342 : ww_1342 ∈ mj_tb := mj_t3 (i := 137) rfl rfl
abbrev ww_1343 : Cond := .code yX9_isMeasure cX9_isMeasure 1 (some .boolean)
theorem wi_1343 : ww_1343 ∈ mj_tb := mj_t5 (i := 171) rfl rfl
abbrev ww_1344 : Cond := .instanceMethod yX9_isMeasure
theorem wi_1344 : ww_1344 ∈ mj_tb := mj_t5 (i := 169) rfl rfl
abbrev ww_1345 : Cond := .selects RX9 yX9_isMeasure yX9_isMeasure
theorem wi_1345 : ww_1345 ∈ mj_tb := mj_t5 (i := 170) rfl rfl
abbrev ww_1346 : Cond := .code yX12_thrown cX12_thrown 1 (some .int)
theorem wi_1346 : ww_1346 ∈ mj_tb := mj_t6 (i := 81) rfl rfl
abbrev ww_1347 : Cond := .instanceMethod yX12_thrown
theorem wi_1347 : ww_1347 ∈ mj_tb := mj_t6 (i := 79) rfl rfl
abbrev ww_1348 : Cond := .selects RX12 yX12_thrown yX12_thrown
theorem wi_1348 : ww_1348 ∈ mj_tb := mj_t6 (i := 80) rfl rfl
abbrev ww_1349 : Cond := .classLink RL 8 RX11
theorem wi_1349 : ww_1349 ∈ mj_tb := mj_t1 (i := 21) rfl rfl
abbrev ww_1350 : Cond := .instantiable RX11 14
theorem wi_1350 : ww_1350 ∈ mj_tb := mj_t1 (i := 22) rfl rfl
abbrev ww_1351 : Cond := .methodLink RL 15 yX11_init
theorem wi_1351 : ww_1351 ∈ mj_tb := mj_t1 (i := 23) rfl rfl
abbrev ww_1352 : Cond := .classLink RL 16 RX12
theorem wi_1352 : ww_1352 ∈ mj_tb := mj_t6 (i := 95) rfl rfl
abbrev ww_1353 : Cond := .instantiable RX12 62
theorem wi_1353 : ww_1353 ∈ mj_tb := mj_t6 (i := 89) rfl rfl
abbrev ww_1354 : Cond := .methodLink RL 18 yX12_init
theorem wi_1354 : ww_1354 ∈ mj_tb := mj_t6 (i := 96) rfl rfl
abbrev ww_1355 : Cond := .methodLink RL 19 yX11_feed
theorem wi_1355 : ww_1355 ∈ mj_tb := mj_t3 (i := 21) rfl rfl
abbrev ww_1356 : Cond := .methodLink RL 23 yX12_feed
theorem wi_1356 : ww_1356 ∈ mj_tb := mj_t6 (i := 82) rfl rfl
abbrev ww_1357 : Cond := .methodLink RL 24 yX11_end
theorem wi_1357 : ww_1357 ∈ mj_tb := mj_t3 (i := 33) rfl rfl
abbrev ww_1358 : Cond := .methodLink RL 28 yX12_end
theorem wi_1358 : ww_1358 ∈ mj_tb := mj_t6 (i := 91) rfl rfl
abbrev ww_1359 : Cond := .methodLink RL 29 yX11_plain
theorem wi_1359 : ww_1359 ∈ mj_tb := mj_t3 (i := 37) rfl rfl
abbrev ww_1360 : Cond := .methodLink RL 33 yX12_plain
theorem wi_1360 : ww_1360 ∈ mj_tb := mj_t7 (i := 71) rfl rfl
abbrev ww_1361 : Cond := .methodLink RL 34 yX11_fault
theorem wi_1361 : ww_1361 ∈ mj_tb := mj_t3 (i := 192) rfl rfl
abbrev ww_1362 : Cond := .methodLink RL 37 yX12_fault
theorem wi_1362 : ww_1362 ∈ mj_tb := mj_t7 (i := 143) rfl rfl
abbrev ww_1363 : Cond := .methodLink RL 43 yX12_told
theorem wi_1363 : ww_1363 ∈ mj_tb := mj_t7 (i := 147) rfl rfl
abbrev ww_1364 : Cond := .methodLink RL 44 yX12_thrown
theorem wi_1364 : ww_1364 ∈ mj_tb := mj_t6 (i := 78) rfl rfl
abbrev ww_1365 : Cond := .methodLink RL 47 yX11_bid
theorem wi_1365 : ww_1365 ∈ mj_tb := mj_t3 (i := 196) rfl rfl
abbrev ww_1366 : Cond := .methodLink RL 50 yX12_bid
theorem wi_1366 : ww_1366 ∈ mj_tb := mj_t7 (i := 163) rfl rfl
abbrev ww_1367 : Cond := .methodLink RL 51 yX11_offer
theorem wi_1367 : ww_1367 ∈ mj_tb := mj_t3 (i := 207) rfl rfl
abbrev ww_1368 : Cond := .methodLink RL 55 yX12_offer
theorem wi_1368 : ww_1368 ∈ mj_tb := mj_t7 (i := 178) rfl rfl
abbrev ww_1369 : Cond := .methodLink RL 56 yX11_undo
theorem wi_1369 : ww_1369 ∈ mj_tb := mj_t3 (i := 219) rfl rfl
abbrev ww_1370 : Cond := .methodLink RL 59 yX12_undo
theorem wi_1370 : ww_1370 ∈ mj_tb := mj_t7 (i := 186) rfl rfl
abbrev ww_1371 : Cond := .methodLink RL 60 yX11_water
theorem wi_1371 : ww_1371 ∈ mj_tb := mj_t3 (i := 228) rfl rfl
abbrev ww_1372 : Cond := .methodLink RL 64 yX12_water
theorem wi_1372 : ww_1372 ∈ mj_tb := mj_t7 (i := 174) rfl rfl
abbrev ww_1373 : Cond := .methodLink RL 65 yX11_contracts
theorem wi_1373 : ww_1373 ∈ mj_tb := mj_t3 (i := 232) rfl rfl
abbrev ww_1374 : Cond := .methodLink RL 68 yX12_contracts
theorem wi_1374 : ww_1374 ∈ mj_tb := mj_t7 (i := 190) rfl rfl
abbrev ww_1375 : Cond := .methodLink RL 69 yX11_contract
theorem wi_1375 : ww_1375 ∈ mj_tb := mj_t4 (i := 28) rfl rfl
abbrev ww_1376 : Cond := .methodLink RL 72 yX12_contract
theorem wi_1376 : ww_1376 ∈ mj_tb := mj_t7 (i := 198) rfl rfl
abbrev ww_1377 : Cond := .methodLink RL 73 yX11_begin
theorem wi_1377 : ww_1377 ∈ mj_tb := mj_t4 (i := 33) rfl rfl
abbrev ww_1378 : Cond := .methodLink RL 77 yX12_begin
theorem wi_1378 : ww_1378 ∈ mj_tb := mj_t7 (i := 202) rfl rfl
abbrev ww_1379 : Cond := .methodLink RL 78 yX11_on
theorem wi_1379 : ww_1379 ∈ mj_tb := mj_t4 (i := 41) rfl rfl
abbrev ww_1380 : Cond := .methodLink RL 81 yX12_on
theorem wi_1380 : ww_1380 ∈ mj_tb := mj_t7 (i := 210) rfl rfl
abbrev ww_1381 : Cond := .methodLink RL 82 yX11_year
theorem wi_1381 : ww_1381 ∈ mj_tb := mj_t4 (i := 109) rfl rfl
abbrev ww_1382 : Cond := .methodLink RL 85 yX12_year
theorem wi_1382 : ww_1382 ∈ mj_tb := mj_t8 (i := 17) rfl rfl
abbrev ww_1383 : Cond := .methodLink RL 86 yX11_town
theorem wi_1383 : ww_1383 ∈ mj_tb := mj_t4 (i := 121) rfl rfl
abbrev ww_1384 : Cond := .methodLink RL 89 yX12_town
theorem wi_1384 : ww_1384 ∈ mj_tb := mj_t8 (i := 21) rfl rfl
abbrev ww_1385 : Cond := .methodLink RL 90 yX11_let
theorem wi_1385 : ww_1385 ∈ mj_tb := mj_t4 (i := 125) rfl rfl
abbrev ww_1386 : Cond := .methodLink RL 93 yX12_let
theorem wi_1386 : ww_1386 ∈ mj_tb := mj_t8 (i := 25) rfl rfl
abbrev ww_1387 : Cond := .methodLink RL 94 yX11_droughts
theorem wi_1387 : ww_1387 ∈ mj_tb := mj_t4 (i := 129) rfl rfl
abbrev ww_1388 : Cond := .methodLink RL 97 yX12_droughts
theorem wi_1388 : ww_1388 ∈ mj_tb := mj_t8 (i := 29) rfl rfl
abbrev ww_1389 : Cond := .methodLink RL 98 yX11_cheapest
theorem wi_1389 : ww_1389 ∈ mj_tb := mj_t4 (i := 133) rfl rfl
abbrev ww_1390 : Cond := .methodLink RL 101 yX12_cheapest
theorem wi_1390 : ww_1390 ∈ mj_tb := mj_t8 (i := 33) rfl rfl
abbrev ww_1391 : Cond := .methodLink RL 102 yX11_plan
theorem wi_1391 : ww_1391 ∈ mj_tb := mj_t4 (i := 210) rfl rfl
abbrev ww_1392 : Cond := .methodLink RL 105 yX12_plan
theorem wi_1392 : ww_1392 ∈ mj_tb := mj_t8 (i := 50) rfl rfl
abbrev ww_1393 : Cond := .methodLink RL 106 yX11_take
theorem wi_1393 : ww_1393 ∈ mj_tb := mj_t4 (i := 214) rfl rfl
abbrev ww_1394 : Cond := .methodLink RL 109 yX12_take
theorem wi_1394 : ww_1394 ∈ mj_tb := mj_t8 (i := 54) rfl rfl
abbrev ww_1395 : Cond := .methodLink RL 110 yX11_rounds
theorem wi_1395 : ww_1395 ∈ mj_tb := mj_t4 (i := 219) rfl rfl
abbrev ww_1396 : Cond := .methodLink RL 113 yX12_rounds
theorem wi_1396 : ww_1396 ∈ mj_tb := mj_t8 (i := 58) rfl rfl
abbrev ww_1397 : Cond := .methodLink RL 114 yX11_has
theorem wi_1397 : ww_1397 ∈ mj_tb := mj_t4 (i := 239) rfl rfl
abbrev ww_1398 : Cond := .methodLink RL 117 yX12_has
theorem wi_1398 : ww_1398 ∈ mj_tb := mj_t8 (i := 66) rfl rfl
abbrev ww_1399 : Cond := .methodLink RL 118 yX11_price
theorem wi_1399 : ww_1399 ∈ mj_tb := mj_t5 (i := 3) rfl rfl
abbrev ww_1400 : Cond := .methodLink RL 121 yX12_price
theorem wi_1400 : ww_1400 ∈ mj_tb := mj_t8 (i := 70) rfl rfl
abbrev ww_1401 : Cond := .methodLink RL 122 yX11_leaks
theorem wi_1401 : ww_1401 ∈ mj_tb := mj_t5 (i := 7) rfl rfl
abbrev ww_1402 : Cond := .methodLink RL 125 yX12_leaks
theorem wi_1402 : ww_1402 ∈ mj_tb := mj_t8 (i := 74) rfl rfl
abbrev ww_1403 : Cond := .methodLink RL 126 yX11_leak
theorem wi_1403 : ww_1403 ∈ mj_tb := mj_t5 (i := 43) rfl rfl
abbrev ww_1404 : Cond := .methodLink RL 129 yX12_leak
theorem wi_1404 : ww_1404 ∈ mj_tb := mj_t8 (i := 94) rfl rfl
abbrev ww_1405 : Cond := .methodLink RL 130 yX11_wettest
theorem wi_1405 : ww_1405 ∈ mj_tb := mj_t5 (i := 47) rfl rfl
abbrev ww_1406 : Cond := .methodLink RL 133 yX12_wettest
theorem wi_1406 : ww_1406 ∈ mj_tb := mj_t8 (i := 98) rfl rfl
abbrev ww_1407 : Cond := .methodLink RL 134 yX11_enough
theorem wi_1407 : ww_1407 ∈ mj_tb := mj_t5 (i := 51) rfl rfl
abbrev ww_1408 : Cond := .methodLink RL 137 yX12_enough
theorem wi_1408 : ww_1408 ∈ mj_tb := mj_t8 (i := 102) rfl rfl
abbrev ww_1409 : Cond := .methodLink RL 138 yX11_shoresOf
theorem wi_1409 : ww_1409 ∈ mj_tb := mj_t5 (i := 60) rfl rfl
abbrev ww_1410 : Cond := .methodLink RL 141 yX12_shoresOf
theorem wi_1410 : ww_1410 ∈ mj_tb := mj_t8 (i := 106) rfl rfl
abbrev ww_1411 : Cond := .methodLink RL 142 yX11_thirsty
theorem wi_1411 : ww_1411 ∈ mj_tb := mj_t5 (i := 68) rfl rfl
abbrev ww_1412 : Cond := .methodLink RL 145 yX12_thirsty
theorem wi_1412 : ww_1412 ∈ mj_tb := mj_t8 (i := 119) rfl rfl
abbrev ww_1413 : Cond := .methodLink RL 146 yX11_bidsOf
theorem wi_1413 : ww_1413 ∈ mj_tb := mj_t5 (i := 76) rfl rfl
abbrev ww_1414 : Cond := .methodLink RL 149 yX12_bidsOf
theorem wi_1414 : ww_1414 ∈ mj_tb := mj_t8 (i := 123) rfl rfl
abbrev ww_1415 : Cond := .methodLink RL 150 yX11_greatest
theorem wi_1415 : ww_1415 ∈ mj_tb := mj_t5 (i := 80) rfl rfl
abbrev ww_1416 : Cond := .methodLink RL 153 yX12_greatest
theorem wi_1416 : ww_1416 ∈ mj_tb := mj_t8 (i := 127) rfl rfl
abbrev ww_1417 : Cond := .methodLink RL 154 yX11_write
theorem wi_1417 : ww_1417 ∈ mj_tb := mj_t5 (i := 84) rfl rfl
abbrev ww_1418 : Cond := .methodLink RL 157 yX12_write
theorem wi_1418 : ww_1418 ∈ mj_tb := mj_t8 (i := 131) rfl rfl
abbrev ww_1419 : Cond := .methodLink RL 158 yX11_byteAt
theorem wi_1419 : ww_1419 ∈ mj_tb := mj_t5 (i := 102) rfl rfl
abbrev ww_1420 : Cond := .methodLink RL 161 yX12_byteAt
theorem wi_1420 : ww_1420 ∈ mj_tb := mj_t8 (i := 148) rfl rfl
abbrev ww_1421 : Cond := .methodLink RL 162 yX11_worth
theorem wi_1421 : ww_1421 ∈ mj_tb := mj_t5 (i := 106) rfl rfl
abbrev ww_1422 : Cond := .methodLink RL 165 yX12_worth
theorem wi_1422 : ww_1422 ∈ mj_tb := mj_t8 (i := 152) rfl rfl
abbrev ww_1423 : Cond := .methodLink RL 166 yX11_drawn
theorem wi_1423 : ww_1423 ∈ mj_tb := mj_t5 (i := 115) rfl rfl
abbrev ww_1424 : Cond := .methodLink RL 169 yX12_drawn
theorem wi_1424 : ww_1424 ∈ mj_tb := mj_t8 (i := 156) rfl rfl
abbrev ww_1425 : Cond := .methodLink RL 170 yX11_shores
theorem wi_1425 : ww_1425 ∈ mj_tb := mj_t5 (i := 124) rfl rfl
abbrev ww_1426 : Cond := .methodLink RL 174 yX12_shores
theorem wi_1426 : ww_1426 ∈ mj_tb := mj_t8 (i := 160) rfl rfl
abbrev ww_1427 : Cond := .methodLink RL 175 yX11_must
theorem wi_1427 : ww_1427 ∈ mj_tb := mj_t5 (i := 128) rfl rfl
abbrev ww_1428 : Cond := .methodLink RL 178 yX12_must
theorem wi_1428 : ww_1428 ∈ mj_tb := mj_t8 (i := 164) rfl rfl
abbrev ww_1429 : Cond := .methodLink RL 179 yX11_sentence
theorem wi_1429 : ww_1429 ∈ mj_tb := mj_t5 (i := 137) rfl rfl
abbrev ww_1430 : Cond := .methodLink RL 182 yX12_sentence
theorem wi_1430 : ww_1430 ∈ mj_tb := mj_t8 (i := 168) rfl rfl
abbrev ww_1431 : Cond := .methodLink RL 183 yX11_said
theorem wi_1431 : ww_1431 ∈ mj_tb := mj_t5 (i := 205) rfl rfl
abbrev ww_1432 : Cond := .methodLink RL 186 yX12_said
theorem wi_1432 : ww_1432 ∈ mj_tb := mj_t8 (i := 196) rfl rfl
abbrev ww_1433 : Cond := .methodLink RL 187 yX11_image
theorem wi_1433 : ww_1433 ∈ mj_tb := mj_t5 (i := 218) rfl rfl
abbrev ww_1434 : Cond := .methodLink RL 190 yX12_image
theorem wi_1434 : ww_1434 ∈ mj_tb := mj_t8 (i := 208) rfl rfl
abbrev ww_1435 : Cond := .methodLink RL 191 yX11_restore
theorem wi_1435 : ww_1435 ∈ mj_tb := mj_t5 (i := 237) rfl rfl
abbrev ww_1436 : Cond := .methodLink RL 194 yX12_restore
theorem wi_1436 : ww_1436 ∈ mj_tb := mj_t8 (i := 212) rfl rfl
abbrev ww_1437 : Cond := .methodLink RL 195 yX11_count
theorem wi_1437 : ww_1437 ∈ mj_tb := mj_t6 (i := 1) rfl rfl
abbrev ww_1438 : Cond := .methodLink RL 198 yX12_count
theorem wi_1438 : ww_1438 ∈ mj_tb := mj_t8 (i := 216) rfl rfl
def mj_wi (i : Nat) : Cond := (cond (Nat.blt i 719) (cond (Nat.blt i 359) (cond (Nat.blt i 179) (cond (Nat.blt i 89) (cond (Nat.blt i 44) (cond (Nat.blt i 22) (cond (Nat.blt i 11) (cond (Nat.blt i 5) (cond (Nat.blt i 2) (cond (Nat.blt i 1) ww_0 ww_1) (cond (Nat.blt i 3) ww_2 (cond (Nat.blt i 4) ww_3 ww_4))) (cond (Nat.blt i 8) (cond (Nat.blt i 6) ww_5 (cond (Nat.blt i 7) ww_6 ww_7)) (cond (Nat.blt i 9) ww_8 (cond (Nat.blt i 10) ww_9 ww_10)))) (cond (Nat.blt i 16) (cond (Nat.blt i 13) (cond (Nat.blt i 12) ww_11 ww_12) (cond (Nat.blt i 14) ww_13 (cond (Nat.blt i 15) ww_14 ww_15))) (cond (Nat.blt i 19) (cond (Nat.blt i 17) ww_16 (cond (Nat.blt i 18) ww_17 ww_18)) (cond (Nat.blt i 20) ww_19 (cond (Nat.blt i 21) ww_20 ww_21))))) (cond (Nat.blt i 33) (cond (Nat.blt i 27) (cond (Nat.blt i 24) (cond (Nat.blt i 23) ww_22 ww_23) (cond (Nat.blt i 25) ww_24 (cond (Nat.blt i 26) ww_25 ww_26))) (cond (Nat.blt i 30) (cond (Nat.blt i 28) ww_27 (cond (Nat.blt i 29) ww_28 ww_29)) (cond (Nat.blt i 31) ww_30 (cond (Nat.blt i 32) ww_31 ww_32)))) (cond (Nat.blt i 38) (cond (Nat.blt i 35) (cond (Nat.blt i 34) ww_33 ww_34) (cond (Nat.blt i 36) ww_35 (cond (Nat.blt i 37) ww_36 ww_37))) (cond (Nat.blt i 41) (cond (Nat.blt i 39) ww_38 (cond (Nat.blt i 40) ww_39 ww_40)) (cond (Nat.blt i 42) ww_41 (cond (Nat.blt i 43) ww_42 ww_43)))))) (cond (Nat.blt i 66) (cond (Nat.blt i 55) (cond (Nat.blt i 49) (cond (Nat.blt i 46) (cond (Nat.blt i 45) ww_44 ww_45) (cond (Nat.blt i 47) ww_46 (cond (Nat.blt i 48) ww_47 ww_48))) (cond (Nat.blt i 52) (cond (Nat.blt i 50) ww_49 (cond (Nat.blt i 51) ww_50 ww_51)) (cond (Nat.blt i 53) ww_52 (cond (Nat.blt i 54) ww_53 ww_54)))) (cond (Nat.blt i 60) (cond (Nat.blt i 57) (cond (Nat.blt i 56) ww_55 ww_56) (cond (Nat.blt i 58) ww_57 (cond (Nat.blt i 59) ww_58 ww_59))) (cond (Nat.blt i 63) (cond (Nat.blt i 61) ww_60 (cond (Nat.blt i 62) ww_61 ww_62)) (cond (Nat.blt i 64) ww_63 (cond (Nat.blt i 65) ww_64 ww_65))))) (cond (Nat.blt i 77) (cond (Nat.blt i 71) (cond (Nat.blt i 68) (cond (Nat.blt i 67) ww_66 ww_67) (cond (Nat.blt i 69) ww_68 (cond (Nat.blt i 70) ww_69 ww_70))) (cond (Nat.blt i 74) (cond (Nat.blt i 72) ww_71 (cond (Nat.blt i 73) ww_72 ww_73)) (cond (Nat.blt i 75) ww_74 (cond (Nat.blt i 76) ww_75 ww_76)))) (cond (Nat.blt i 83) (cond (Nat.blt i 80) (cond (Nat.blt i 78) ww_77 (cond (Nat.blt i 79) ww_78 ww_79)) (cond (Nat.blt i 81) ww_80 (cond (Nat.blt i 82) ww_81 ww_82))) (cond (Nat.blt i 86) (cond (Nat.blt i 84) ww_83 (cond (Nat.blt i 85) ww_84 ww_85)) (cond (Nat.blt i 87) ww_86 (cond (Nat.blt i 88) ww_87 ww_88))))))) (cond (Nat.blt i 134) (cond (Nat.blt i 111) (cond (Nat.blt i 100) (cond (Nat.blt i 94) (cond (Nat.blt i 91) (cond (Nat.blt i 90) ww_89 ww_90) (cond (Nat.blt i 92) ww_91 (cond (Nat.blt i 93) ww_92 ww_93))) (cond (Nat.blt i 97) (cond (Nat.blt i 95) ww_94 (cond (Nat.blt i 96) ww_95 ww_96)) (cond (Nat.blt i 98) ww_97 (cond (Nat.blt i 99) ww_98 ww_99)))) (cond (Nat.blt i 105) (cond (Nat.blt i 102) (cond (Nat.blt i 101) ww_100 ww_101) (cond (Nat.blt i 103) ww_102 (cond (Nat.blt i 104) ww_103 ww_104))) (cond (Nat.blt i 108) (cond (Nat.blt i 106) ww_105 (cond (Nat.blt i 107) ww_106 ww_107)) (cond (Nat.blt i 109) ww_108 (cond (Nat.blt i 110) ww_109 ww_110))))) (cond (Nat.blt i 122) (cond (Nat.blt i 116) (cond (Nat.blt i 113) (cond (Nat.blt i 112) ww_111 ww_112) (cond (Nat.blt i 114) ww_113 (cond (Nat.blt i 115) ww_114 ww_115))) (cond (Nat.blt i 119) (cond (Nat.blt i 117) ww_116 (cond (Nat.blt i 118) ww_117 ww_118)) (cond (Nat.blt i 120) ww_119 (cond (Nat.blt i 121) ww_120 ww_121)))) (cond (Nat.blt i 128) (cond (Nat.blt i 125) (cond (Nat.blt i 123) ww_122 (cond (Nat.blt i 124) ww_123 ww_124)) (cond (Nat.blt i 126) ww_125 (cond (Nat.blt i 127) ww_126 ww_127))) (cond (Nat.blt i 131) (cond (Nat.blt i 129) ww_128 (cond (Nat.blt i 130) ww_129 ww_130)) (cond (Nat.blt i 132) ww_131 (cond (Nat.blt i 133) ww_132 ww_133)))))) (cond (Nat.blt i 156) (cond (Nat.blt i 145) (cond (Nat.blt i 139) (cond (Nat.blt i 136) (cond (Nat.blt i 135) ww_134 ww_135) (cond (Nat.blt i 137) ww_136 (cond (Nat.blt i 138) ww_137 ww_138))) (cond (Nat.blt i 142) (cond (Nat.blt i 140) ww_139 (cond (Nat.blt i 141) ww_140 ww_141)) (cond (Nat.blt i 143) ww_142 (cond (Nat.blt i 144) ww_143 ww_144)))) (cond (Nat.blt i 150) (cond (Nat.blt i 147) (cond (Nat.blt i 146) ww_145 ww_146) (cond (Nat.blt i 148) ww_147 (cond (Nat.blt i 149) ww_148 ww_149))) (cond (Nat.blt i 153) (cond (Nat.blt i 151) ww_150 (cond (Nat.blt i 152) ww_151 ww_152)) (cond (Nat.blt i 154) ww_153 (cond (Nat.blt i 155) ww_154 ww_155))))) (cond (Nat.blt i 167) (cond (Nat.blt i 161) (cond (Nat.blt i 158) (cond (Nat.blt i 157) ww_156 ww_157) (cond (Nat.blt i 159) ww_158 (cond (Nat.blt i 160) ww_159 ww_160))) (cond (Nat.blt i 164) (cond (Nat.blt i 162) ww_161 (cond (Nat.blt i 163) ww_162 ww_163)) (cond (Nat.blt i 165) ww_164 (cond (Nat.blt i 166) ww_165 ww_166)))) (cond (Nat.blt i 173) (cond (Nat.blt i 170) (cond (Nat.blt i 168) ww_167 (cond (Nat.blt i 169) ww_168 ww_169)) (cond (Nat.blt i 171) ww_170 (cond (Nat.blt i 172) ww_171 ww_172))) (cond (Nat.blt i 176) (cond (Nat.blt i 174) ww_173 (cond (Nat.blt i 175) ww_174 ww_175)) (cond (Nat.blt i 177) ww_176 (cond (Nat.blt i 178) ww_177 ww_178)))))))) (cond (Nat.blt i 269) (cond (Nat.blt i 224) (cond (Nat.blt i 201) (cond (Nat.blt i 190) (cond (Nat.blt i 184) (cond (Nat.blt i 181) (cond (Nat.blt i 180) ww_179 ww_180) (cond (Nat.blt i 182) ww_181 (cond (Nat.blt i 183) ww_182 ww_183))) (cond (Nat.blt i 187) (cond (Nat.blt i 185) ww_184 (cond (Nat.blt i 186) ww_185 ww_186)) (cond (Nat.blt i 188) ww_187 (cond (Nat.blt i 189) ww_188 ww_189)))) (cond (Nat.blt i 195) (cond (Nat.blt i 192) (cond (Nat.blt i 191) ww_190 ww_191) (cond (Nat.blt i 193) ww_192 (cond (Nat.blt i 194) ww_193 ww_194))) (cond (Nat.blt i 198) (cond (Nat.blt i 196) ww_195 (cond (Nat.blt i 197) ww_196 ww_197)) (cond (Nat.blt i 199) ww_198 (cond (Nat.blt i 200) ww_199 ww_200))))) (cond (Nat.blt i 212) (cond (Nat.blt i 206) (cond (Nat.blt i 203) (cond (Nat.blt i 202) ww_201 ww_202) (cond (Nat.blt i 204) ww_203 (cond (Nat.blt i 205) ww_204 ww_205))) (cond (Nat.blt i 209) (cond (Nat.blt i 207) ww_206 (cond (Nat.blt i 208) ww_207 ww_208)) (cond (Nat.blt i 210) ww_209 (cond (Nat.blt i 211) ww_210 ww_211)))) (cond (Nat.blt i 218) (cond (Nat.blt i 215) (cond (Nat.blt i 213) ww_212 (cond (Nat.blt i 214) ww_213 ww_214)) (cond (Nat.blt i 216) ww_215 (cond (Nat.blt i 217) ww_216 ww_217))) (cond (Nat.blt i 221) (cond (Nat.blt i 219) ww_218 (cond (Nat.blt i 220) ww_219 ww_220)) (cond (Nat.blt i 222) ww_221 (cond (Nat.blt i 223) ww_222 ww_223)))))) (cond (Nat.blt i 246) (cond (Nat.blt i 235) (cond (Nat.blt i 229) (cond (Nat.blt i 226) (cond (Nat.blt i 225) ww_224 ww_225) (cond (Nat.blt i 227) ww_226 (cond (Nat.blt i 228) ww_227 ww_228))) (cond (Nat.blt i 232) (cond (Nat.blt i 230) ww_229 (cond (Nat.blt i 231) ww_230 ww_231)) (cond (Nat.blt i 233) ww_232 (cond (Nat.blt i 234) ww_233 ww_234)))) (cond (Nat.blt i 240) (cond (Nat.blt i 237) (cond (Nat.blt i 236) ww_235 ww_236) (cond (Nat.blt i 238) ww_237 (cond (Nat.blt i 239) ww_238 ww_239))) (cond (Nat.blt i 243) (cond (Nat.blt i 241) ww_240 (cond (Nat.blt i 242) ww_241 ww_242)) (cond (Nat.blt i 244) ww_243 (cond (Nat.blt i 245) ww_244 ww_245))))) (cond (Nat.blt i 257) (cond (Nat.blt i 251) (cond (Nat.blt i 248) (cond (Nat.blt i 247) ww_246 ww_247) (cond (Nat.blt i 249) ww_248 (cond (Nat.blt i 250) ww_249 ww_250))) (cond (Nat.blt i 254) (cond (Nat.blt i 252) ww_251 (cond (Nat.blt i 253) ww_252 ww_253)) (cond (Nat.blt i 255) ww_254 (cond (Nat.blt i 256) ww_255 ww_256)))) (cond (Nat.blt i 263) (cond (Nat.blt i 260) (cond (Nat.blt i 258) ww_257 (cond (Nat.blt i 259) ww_258 ww_259)) (cond (Nat.blt i 261) ww_260 (cond (Nat.blt i 262) ww_261 ww_262))) (cond (Nat.blt i 266) (cond (Nat.blt i 264) ww_263 (cond (Nat.blt i 265) ww_264 ww_265)) (cond (Nat.blt i 267) ww_266 (cond (Nat.blt i 268) ww_267 ww_268))))))) (cond (Nat.blt i 314) (cond (Nat.blt i 291) (cond (Nat.blt i 280) (cond (Nat.blt i 274) (cond (Nat.blt i 271) (cond (Nat.blt i 270) ww_269 ww_270) (cond (Nat.blt i 272) ww_271 (cond (Nat.blt i 273) ww_272 ww_273))) (cond (Nat.blt i 277) (cond (Nat.blt i 275) ww_274 (cond (Nat.blt i 276) ww_275 ww_276)) (cond (Nat.blt i 278) ww_277 (cond (Nat.blt i 279) ww_278 ww_279)))) (cond (Nat.blt i 285) (cond (Nat.blt i 282) (cond (Nat.blt i 281) ww_280 ww_281) (cond (Nat.blt i 283) ww_282 (cond (Nat.blt i 284) ww_283 ww_284))) (cond (Nat.blt i 288) (cond (Nat.blt i 286) ww_285 (cond (Nat.blt i 287) ww_286 ww_287)) (cond (Nat.blt i 289) ww_288 (cond (Nat.blt i 290) ww_289 ww_290))))) (cond (Nat.blt i 302) (cond (Nat.blt i 296) (cond (Nat.blt i 293) (cond (Nat.blt i 292) ww_291 ww_292) (cond (Nat.blt i 294) ww_293 (cond (Nat.blt i 295) ww_294 ww_295))) (cond (Nat.blt i 299) (cond (Nat.blt i 297) ww_296 (cond (Nat.blt i 298) ww_297 ww_298)) (cond (Nat.blt i 300) ww_299 (cond (Nat.blt i 301) ww_300 ww_301)))) (cond (Nat.blt i 308) (cond (Nat.blt i 305) (cond (Nat.blt i 303) ww_302 (cond (Nat.blt i 304) ww_303 ww_304)) (cond (Nat.blt i 306) ww_305 (cond (Nat.blt i 307) ww_306 ww_307))) (cond (Nat.blt i 311) (cond (Nat.blt i 309) ww_308 (cond (Nat.blt i 310) ww_309 ww_310)) (cond (Nat.blt i 312) ww_311 (cond (Nat.blt i 313) ww_312 ww_313)))))) (cond (Nat.blt i 336) (cond (Nat.blt i 325) (cond (Nat.blt i 319) (cond (Nat.blt i 316) (cond (Nat.blt i 315) ww_314 ww_315) (cond (Nat.blt i 317) ww_316 (cond (Nat.blt i 318) ww_317 ww_318))) (cond (Nat.blt i 322) (cond (Nat.blt i 320) ww_319 (cond (Nat.blt i 321) ww_320 ww_321)) (cond (Nat.blt i 323) ww_322 (cond (Nat.blt i 324) ww_323 ww_324)))) (cond (Nat.blt i 330) (cond (Nat.blt i 327) (cond (Nat.blt i 326) ww_325 ww_326) (cond (Nat.blt i 328) ww_327 (cond (Nat.blt i 329) ww_328 ww_329))) (cond (Nat.blt i 333) (cond (Nat.blt i 331) ww_330 (cond (Nat.blt i 332) ww_331 ww_332)) (cond (Nat.blt i 334) ww_333 (cond (Nat.blt i 335) ww_334 ww_335))))) (cond (Nat.blt i 347) (cond (Nat.blt i 341) (cond (Nat.blt i 338) (cond (Nat.blt i 337) ww_336 ww_337) (cond (Nat.blt i 339) ww_338 (cond (Nat.blt i 340) ww_339 ww_340))) (cond (Nat.blt i 344) (cond (Nat.blt i 342) ww_341 (cond (Nat.blt i 343) ww_342 ww_343)) (cond (Nat.blt i 345) ww_344 (cond (Nat.blt i 346) ww_345 ww_346)))) (cond (Nat.blt i 353) (cond (Nat.blt i 350) (cond (Nat.blt i 348) ww_347 (cond (Nat.blt i 349) ww_348 ww_349)) (cond (Nat.blt i 351) ww_350 (cond (Nat.blt i 352) ww_351 ww_352))) (cond (Nat.blt i 356) (cond (Nat.blt i 354) ww_353 (cond (Nat.blt i 355) ww_354 ww_355)) (cond (Nat.blt i 357) ww_356 (cond (Nat.blt i 358) ww_357 ww_358))))))))) (cond (Nat.blt i 539) (cond (Nat.blt i 449) (cond (Nat.blt i 404) (cond (Nat.blt i 381) (cond (Nat.blt i 370) (cond (Nat.blt i 364) (cond (Nat.blt i 361) (cond (Nat.blt i 360) ww_359 ww_360) (cond (Nat.blt i 362) ww_361 (cond (Nat.blt i 363) ww_362 ww_363))) (cond (Nat.blt i 367) (cond (Nat.blt i 365) ww_364 (cond (Nat.blt i 366) ww_365 ww_366)) (cond (Nat.blt i 368) ww_367 (cond (Nat.blt i 369) ww_368 ww_369)))) (cond (Nat.blt i 375) (cond (Nat.blt i 372) (cond (Nat.blt i 371) ww_370 ww_371) (cond (Nat.blt i 373) ww_372 (cond (Nat.blt i 374) ww_373 ww_374))) (cond (Nat.blt i 378) (cond (Nat.blt i 376) ww_375 (cond (Nat.blt i 377) ww_376 ww_377)) (cond (Nat.blt i 379) ww_378 (cond (Nat.blt i 380) ww_379 ww_380))))) (cond (Nat.blt i 392) (cond (Nat.blt i 386) (cond (Nat.blt i 383) (cond (Nat.blt i 382) ww_381 ww_382) (cond (Nat.blt i 384) ww_383 (cond (Nat.blt i 385) ww_384 ww_385))) (cond (Nat.blt i 389) (cond (Nat.blt i 387) ww_386 (cond (Nat.blt i 388) ww_387 ww_388)) (cond (Nat.blt i 390) ww_389 (cond (Nat.blt i 391) ww_390 ww_391)))) (cond (Nat.blt i 398) (cond (Nat.blt i 395) (cond (Nat.blt i 393) ww_392 (cond (Nat.blt i 394) ww_393 ww_394)) (cond (Nat.blt i 396) ww_395 (cond (Nat.blt i 397) ww_396 ww_397))) (cond (Nat.blt i 401) (cond (Nat.blt i 399) ww_398 (cond (Nat.blt i 400) ww_399 ww_400)) (cond (Nat.blt i 402) ww_401 (cond (Nat.blt i 403) ww_402 ww_403)))))) (cond (Nat.blt i 426) (cond (Nat.blt i 415) (cond (Nat.blt i 409) (cond (Nat.blt i 406) (cond (Nat.blt i 405) ww_404 ww_405) (cond (Nat.blt i 407) ww_406 (cond (Nat.blt i 408) ww_407 ww_408))) (cond (Nat.blt i 412) (cond (Nat.blt i 410) ww_409 (cond (Nat.blt i 411) ww_410 ww_411)) (cond (Nat.blt i 413) ww_412 (cond (Nat.blt i 414) ww_413 ww_414)))) (cond (Nat.blt i 420) (cond (Nat.blt i 417) (cond (Nat.blt i 416) ww_415 ww_416) (cond (Nat.blt i 418) ww_417 (cond (Nat.blt i 419) ww_418 ww_419))) (cond (Nat.blt i 423) (cond (Nat.blt i 421) ww_420 (cond (Nat.blt i 422) ww_421 ww_422)) (cond (Nat.blt i 424) ww_423 (cond (Nat.blt i 425) ww_424 ww_425))))) (cond (Nat.blt i 437) (cond (Nat.blt i 431) (cond (Nat.blt i 428) (cond (Nat.blt i 427) ww_426 ww_427) (cond (Nat.blt i 429) ww_428 (cond (Nat.blt i 430) ww_429 ww_430))) (cond (Nat.blt i 434) (cond (Nat.blt i 432) ww_431 (cond (Nat.blt i 433) ww_432 ww_433)) (cond (Nat.blt i 435) ww_434 (cond (Nat.blt i 436) ww_435 ww_436)))) (cond (Nat.blt i 443) (cond (Nat.blt i 440) (cond (Nat.blt i 438) ww_437 (cond (Nat.blt i 439) ww_438 ww_439)) (cond (Nat.blt i 441) ww_440 (cond (Nat.blt i 442) ww_441 ww_442))) (cond (Nat.blt i 446) (cond (Nat.blt i 444) ww_443 (cond (Nat.blt i 445) ww_444 ww_445)) (cond (Nat.blt i 447) ww_446 (cond (Nat.blt i 448) ww_447 ww_448))))))) (cond (Nat.blt i 494) (cond (Nat.blt i 471) (cond (Nat.blt i 460) (cond (Nat.blt i 454) (cond (Nat.blt i 451) (cond (Nat.blt i 450) ww_449 ww_450) (cond (Nat.blt i 452) ww_451 (cond (Nat.blt i 453) ww_452 ww_453))) (cond (Nat.blt i 457) (cond (Nat.blt i 455) ww_454 (cond (Nat.blt i 456) ww_455 ww_456)) (cond (Nat.blt i 458) ww_457 (cond (Nat.blt i 459) ww_458 ww_459)))) (cond (Nat.blt i 465) (cond (Nat.blt i 462) (cond (Nat.blt i 461) ww_460 ww_461) (cond (Nat.blt i 463) ww_462 (cond (Nat.blt i 464) ww_463 ww_464))) (cond (Nat.blt i 468) (cond (Nat.blt i 466) ww_465 (cond (Nat.blt i 467) ww_466 ww_467)) (cond (Nat.blt i 469) ww_468 (cond (Nat.blt i 470) ww_469 ww_470))))) (cond (Nat.blt i 482) (cond (Nat.blt i 476) (cond (Nat.blt i 473) (cond (Nat.blt i 472) ww_471 ww_472) (cond (Nat.blt i 474) ww_473 (cond (Nat.blt i 475) ww_474 ww_475))) (cond (Nat.blt i 479) (cond (Nat.blt i 477) ww_476 (cond (Nat.blt i 478) ww_477 ww_478)) (cond (Nat.blt i 480) ww_479 (cond (Nat.blt i 481) ww_480 ww_481)))) (cond (Nat.blt i 488) (cond (Nat.blt i 485) (cond (Nat.blt i 483) ww_482 (cond (Nat.blt i 484) ww_483 ww_484)) (cond (Nat.blt i 486) ww_485 (cond (Nat.blt i 487) ww_486 ww_487))) (cond (Nat.blt i 491) (cond (Nat.blt i 489) ww_488 (cond (Nat.blt i 490) ww_489 ww_490)) (cond (Nat.blt i 492) ww_491 (cond (Nat.blt i 493) ww_492 ww_493)))))) (cond (Nat.blt i 516) (cond (Nat.blt i 505) (cond (Nat.blt i 499) (cond (Nat.blt i 496) (cond (Nat.blt i 495) ww_494 ww_495) (cond (Nat.blt i 497) ww_496 (cond (Nat.blt i 498) ww_497 ww_498))) (cond (Nat.blt i 502) (cond (Nat.blt i 500) ww_499 (cond (Nat.blt i 501) ww_500 ww_501)) (cond (Nat.blt i 503) ww_502 (cond (Nat.blt i 504) ww_503 ww_504)))) (cond (Nat.blt i 510) (cond (Nat.blt i 507) (cond (Nat.blt i 506) ww_505 ww_506) (cond (Nat.blt i 508) ww_507 (cond (Nat.blt i 509) ww_508 ww_509))) (cond (Nat.blt i 513) (cond (Nat.blt i 511) ww_510 (cond (Nat.blt i 512) ww_511 ww_512)) (cond (Nat.blt i 514) ww_513 (cond (Nat.blt i 515) ww_514 ww_515))))) (cond (Nat.blt i 527) (cond (Nat.blt i 521) (cond (Nat.blt i 518) (cond (Nat.blt i 517) ww_516 ww_517) (cond (Nat.blt i 519) ww_518 (cond (Nat.blt i 520) ww_519 ww_520))) (cond (Nat.blt i 524) (cond (Nat.blt i 522) ww_521 (cond (Nat.blt i 523) ww_522 ww_523)) (cond (Nat.blt i 525) ww_524 (cond (Nat.blt i 526) ww_525 ww_526)))) (cond (Nat.blt i 533) (cond (Nat.blt i 530) (cond (Nat.blt i 528) ww_527 (cond (Nat.blt i 529) ww_528 ww_529)) (cond (Nat.blt i 531) ww_530 (cond (Nat.blt i 532) ww_531 ww_532))) (cond (Nat.blt i 536) (cond (Nat.blt i 534) ww_533 (cond (Nat.blt i 535) ww_534 ww_535)) (cond (Nat.blt i 537) ww_536 (cond (Nat.blt i 538) ww_537 ww_538)))))))) (cond (Nat.blt i 629) (cond (Nat.blt i 584) (cond (Nat.blt i 561) (cond (Nat.blt i 550) (cond (Nat.blt i 544) (cond (Nat.blt i 541) (cond (Nat.blt i 540) ww_539 ww_540) (cond (Nat.blt i 542) ww_541 (cond (Nat.blt i 543) ww_542 ww_543))) (cond (Nat.blt i 547) (cond (Nat.blt i 545) ww_544 (cond (Nat.blt i 546) ww_545 ww_546)) (cond (Nat.blt i 548) ww_547 (cond (Nat.blt i 549) ww_548 ww_549)))) (cond (Nat.blt i 555) (cond (Nat.blt i 552) (cond (Nat.blt i 551) ww_550 ww_551) (cond (Nat.blt i 553) ww_552 (cond (Nat.blt i 554) ww_553 ww_554))) (cond (Nat.blt i 558) (cond (Nat.blt i 556) ww_555 (cond (Nat.blt i 557) ww_556 ww_557)) (cond (Nat.blt i 559) ww_558 (cond (Nat.blt i 560) ww_559 ww_560))))) (cond (Nat.blt i 572) (cond (Nat.blt i 566) (cond (Nat.blt i 563) (cond (Nat.blt i 562) ww_561 ww_562) (cond (Nat.blt i 564) ww_563 (cond (Nat.blt i 565) ww_564 ww_565))) (cond (Nat.blt i 569) (cond (Nat.blt i 567) ww_566 (cond (Nat.blt i 568) ww_567 ww_568)) (cond (Nat.blt i 570) ww_569 (cond (Nat.blt i 571) ww_570 ww_571)))) (cond (Nat.blt i 578) (cond (Nat.blt i 575) (cond (Nat.blt i 573) ww_572 (cond (Nat.blt i 574) ww_573 ww_574)) (cond (Nat.blt i 576) ww_575 (cond (Nat.blt i 577) ww_576 ww_577))) (cond (Nat.blt i 581) (cond (Nat.blt i 579) ww_578 (cond (Nat.blt i 580) ww_579 ww_580)) (cond (Nat.blt i 582) ww_581 (cond (Nat.blt i 583) ww_582 ww_583)))))) (cond (Nat.blt i 606) (cond (Nat.blt i 595) (cond (Nat.blt i 589) (cond (Nat.blt i 586) (cond (Nat.blt i 585) ww_584 ww_585) (cond (Nat.blt i 587) ww_586 (cond (Nat.blt i 588) ww_587 ww_588))) (cond (Nat.blt i 592) (cond (Nat.blt i 590) ww_589 (cond (Nat.blt i 591) ww_590 ww_591)) (cond (Nat.blt i 593) ww_592 (cond (Nat.blt i 594) ww_593 ww_594)))) (cond (Nat.blt i 600) (cond (Nat.blt i 597) (cond (Nat.blt i 596) ww_595 ww_596) (cond (Nat.blt i 598) ww_597 (cond (Nat.blt i 599) ww_598 ww_599))) (cond (Nat.blt i 603) (cond (Nat.blt i 601) ww_600 (cond (Nat.blt i 602) ww_601 ww_602)) (cond (Nat.blt i 604) ww_603 (cond (Nat.blt i 605) ww_604 ww_605))))) (cond (Nat.blt i 617) (cond (Nat.blt i 611) (cond (Nat.blt i 608) (cond (Nat.blt i 607) ww_606 ww_607) (cond (Nat.blt i 609) ww_608 (cond (Nat.blt i 610) ww_609 ww_610))) (cond (Nat.blt i 614) (cond (Nat.blt i 612) ww_611 (cond (Nat.blt i 613) ww_612 ww_613)) (cond (Nat.blt i 615) ww_614 (cond (Nat.blt i 616) ww_615 ww_616)))) (cond (Nat.blt i 623) (cond (Nat.blt i 620) (cond (Nat.blt i 618) ww_617 (cond (Nat.blt i 619) ww_618 ww_619)) (cond (Nat.blt i 621) ww_620 (cond (Nat.blt i 622) ww_621 ww_622))) (cond (Nat.blt i 626) (cond (Nat.blt i 624) ww_623 (cond (Nat.blt i 625) ww_624 ww_625)) (cond (Nat.blt i 627) ww_626 (cond (Nat.blt i 628) ww_627 ww_628))))))) (cond (Nat.blt i 674) (cond (Nat.blt i 651) (cond (Nat.blt i 640) (cond (Nat.blt i 634) (cond (Nat.blt i 631) (cond (Nat.blt i 630) ww_629 ww_630) (cond (Nat.blt i 632) ww_631 (cond (Nat.blt i 633) ww_632 ww_633))) (cond (Nat.blt i 637) (cond (Nat.blt i 635) ww_634 (cond (Nat.blt i 636) ww_635 ww_636)) (cond (Nat.blt i 638) ww_637 (cond (Nat.blt i 639) ww_638 ww_639)))) (cond (Nat.blt i 645) (cond (Nat.blt i 642) (cond (Nat.blt i 641) ww_640 ww_641) (cond (Nat.blt i 643) ww_642 (cond (Nat.blt i 644) ww_643 ww_644))) (cond (Nat.blt i 648) (cond (Nat.blt i 646) ww_645 (cond (Nat.blt i 647) ww_646 ww_647)) (cond (Nat.blt i 649) ww_648 (cond (Nat.blt i 650) ww_649 ww_650))))) (cond (Nat.blt i 662) (cond (Nat.blt i 656) (cond (Nat.blt i 653) (cond (Nat.blt i 652) ww_651 ww_652) (cond (Nat.blt i 654) ww_653 (cond (Nat.blt i 655) ww_654 ww_655))) (cond (Nat.blt i 659) (cond (Nat.blt i 657) ww_656 (cond (Nat.blt i 658) ww_657 ww_658)) (cond (Nat.blt i 660) ww_659 (cond (Nat.blt i 661) ww_660 ww_661)))) (cond (Nat.blt i 668) (cond (Nat.blt i 665) (cond (Nat.blt i 663) ww_662 (cond (Nat.blt i 664) ww_663 ww_664)) (cond (Nat.blt i 666) ww_665 (cond (Nat.blt i 667) ww_666 ww_667))) (cond (Nat.blt i 671) (cond (Nat.blt i 669) ww_668 (cond (Nat.blt i 670) ww_669 ww_670)) (cond (Nat.blt i 672) ww_671 (cond (Nat.blt i 673) ww_672 ww_673)))))) (cond (Nat.blt i 696) (cond (Nat.blt i 685) (cond (Nat.blt i 679) (cond (Nat.blt i 676) (cond (Nat.blt i 675) ww_674 ww_675) (cond (Nat.blt i 677) ww_676 (cond (Nat.blt i 678) ww_677 ww_678))) (cond (Nat.blt i 682) (cond (Nat.blt i 680) ww_679 (cond (Nat.blt i 681) ww_680 ww_681)) (cond (Nat.blt i 683) ww_682 (cond (Nat.blt i 684) ww_683 ww_684)))) (cond (Nat.blt i 690) (cond (Nat.blt i 687) (cond (Nat.blt i 686) ww_685 ww_686) (cond (Nat.blt i 688) ww_687 (cond (Nat.blt i 689) ww_688 ww_689))) (cond (Nat.blt i 693) (cond (Nat.blt i 691) ww_690 (cond (Nat.blt i 692) ww_691 ww_692)) (cond (Nat.blt i 694) ww_693 (cond (Nat.blt i 695) ww_694 ww_695))))) (cond (Nat.blt i 707) (cond (Nat.blt i 701) (cond (Nat.blt i 698) (cond (Nat.blt i 697) ww_696 ww_697) (cond (Nat.blt i 699) ww_698 (cond (Nat.blt i 700) ww_699 ww_700))) (cond (Nat.blt i 704) (cond (Nat.blt i 702) ww_701 (cond (Nat.blt i 703) ww_702 ww_703)) (cond (Nat.blt i 705) ww_704 (cond (Nat.blt i 706) ww_705 ww_706)))) (cond (Nat.blt i 713) (cond (Nat.blt i 710) (cond (Nat.blt i 708) ww_707 (cond (Nat.blt i 709) ww_708 ww_709)) (cond (Nat.blt i 711) ww_710 (cond (Nat.blt i 712) ww_711 ww_712))) (cond (Nat.blt i 716) (cond (Nat.blt i 714) ww_713 (cond (Nat.blt i 715) ww_714 ww_715)) (cond (Nat.blt i 717) ww_716 (cond (Nat.blt i 718) ww_717 ww_718)))))))))) (cond (Nat.blt i 1079) (cond (Nat.blt i 899) (cond (Nat.blt i 809) (cond (Nat.blt i 764) (cond (Nat.blt i 741) (cond (Nat.blt i 730) (cond (Nat.blt i 724) (cond (Nat.blt i 721) (cond (Nat.blt i 720) ww_719 ww_720) (cond (Nat.blt i 722) ww_721 (cond (Nat.blt i 723) ww_722 ww_723))) (cond (Nat.blt i 727) (cond (Nat.blt i 725) ww_724 (cond (Nat.blt i 726) ww_725 ww_726)) (cond (Nat.blt i 728) ww_727 (cond (Nat.blt i 729) ww_728 ww_729)))) (cond (Nat.blt i 735) (cond (Nat.blt i 732) (cond (Nat.blt i 731) ww_730 ww_731) (cond (Nat.blt i 733) ww_732 (cond (Nat.blt i 734) ww_733 ww_734))) (cond (Nat.blt i 738) (cond (Nat.blt i 736) ww_735 (cond (Nat.blt i 737) ww_736 ww_737)) (cond (Nat.blt i 739) ww_738 (cond (Nat.blt i 740) ww_739 ww_740))))) (cond (Nat.blt i 752) (cond (Nat.blt i 746) (cond (Nat.blt i 743) (cond (Nat.blt i 742) ww_741 ww_742) (cond (Nat.blt i 744) ww_743 (cond (Nat.blt i 745) ww_744 ww_745))) (cond (Nat.blt i 749) (cond (Nat.blt i 747) ww_746 (cond (Nat.blt i 748) ww_747 ww_748)) (cond (Nat.blt i 750) ww_749 (cond (Nat.blt i 751) ww_750 ww_751)))) (cond (Nat.blt i 758) (cond (Nat.blt i 755) (cond (Nat.blt i 753) ww_752 (cond (Nat.blt i 754) ww_753 ww_754)) (cond (Nat.blt i 756) ww_755 (cond (Nat.blt i 757) ww_756 ww_757))) (cond (Nat.blt i 761) (cond (Nat.blt i 759) ww_758 (cond (Nat.blt i 760) ww_759 ww_760)) (cond (Nat.blt i 762) ww_761 (cond (Nat.blt i 763) ww_762 ww_763)))))) (cond (Nat.blt i 786) (cond (Nat.blt i 775) (cond (Nat.blt i 769) (cond (Nat.blt i 766) (cond (Nat.blt i 765) ww_764 ww_765) (cond (Nat.blt i 767) ww_766 (cond (Nat.blt i 768) ww_767 ww_768))) (cond (Nat.blt i 772) (cond (Nat.blt i 770) ww_769 (cond (Nat.blt i 771) ww_770 ww_771)) (cond (Nat.blt i 773) ww_772 (cond (Nat.blt i 774) ww_773 ww_774)))) (cond (Nat.blt i 780) (cond (Nat.blt i 777) (cond (Nat.blt i 776) ww_775 ww_776) (cond (Nat.blt i 778) ww_777 (cond (Nat.blt i 779) ww_778 ww_779))) (cond (Nat.blt i 783) (cond (Nat.blt i 781) ww_780 (cond (Nat.blt i 782) ww_781 ww_782)) (cond (Nat.blt i 784) ww_783 (cond (Nat.blt i 785) ww_784 ww_785))))) (cond (Nat.blt i 797) (cond (Nat.blt i 791) (cond (Nat.blt i 788) (cond (Nat.blt i 787) ww_786 ww_787) (cond (Nat.blt i 789) ww_788 (cond (Nat.blt i 790) ww_789 ww_790))) (cond (Nat.blt i 794) (cond (Nat.blt i 792) ww_791 (cond (Nat.blt i 793) ww_792 ww_793)) (cond (Nat.blt i 795) ww_794 (cond (Nat.blt i 796) ww_795 ww_796)))) (cond (Nat.blt i 803) (cond (Nat.blt i 800) (cond (Nat.blt i 798) ww_797 (cond (Nat.blt i 799) ww_798 ww_799)) (cond (Nat.blt i 801) ww_800 (cond (Nat.blt i 802) ww_801 ww_802))) (cond (Nat.blt i 806) (cond (Nat.blt i 804) ww_803 (cond (Nat.blt i 805) ww_804 ww_805)) (cond (Nat.blt i 807) ww_806 (cond (Nat.blt i 808) ww_807 ww_808))))))) (cond (Nat.blt i 854) (cond (Nat.blt i 831) (cond (Nat.blt i 820) (cond (Nat.blt i 814) (cond (Nat.blt i 811) (cond (Nat.blt i 810) ww_809 ww_810) (cond (Nat.blt i 812) ww_811 (cond (Nat.blt i 813) ww_812 ww_813))) (cond (Nat.blt i 817) (cond (Nat.blt i 815) ww_814 (cond (Nat.blt i 816) ww_815 ww_816)) (cond (Nat.blt i 818) ww_817 (cond (Nat.blt i 819) ww_818 ww_819)))) (cond (Nat.blt i 825) (cond (Nat.blt i 822) (cond (Nat.blt i 821) ww_820 ww_821) (cond (Nat.blt i 823) ww_822 (cond (Nat.blt i 824) ww_823 ww_824))) (cond (Nat.blt i 828) (cond (Nat.blt i 826) ww_825 (cond (Nat.blt i 827) ww_826 ww_827)) (cond (Nat.blt i 829) ww_828 (cond (Nat.blt i 830) ww_829 ww_830))))) (cond (Nat.blt i 842) (cond (Nat.blt i 836) (cond (Nat.blt i 833) (cond (Nat.blt i 832) ww_831 ww_832) (cond (Nat.blt i 834) ww_833 (cond (Nat.blt i 835) ww_834 ww_835))) (cond (Nat.blt i 839) (cond (Nat.blt i 837) ww_836 (cond (Nat.blt i 838) ww_837 ww_838)) (cond (Nat.blt i 840) ww_839 (cond (Nat.blt i 841) ww_840 ww_841)))) (cond (Nat.blt i 848) (cond (Nat.blt i 845) (cond (Nat.blt i 843) ww_842 (cond (Nat.blt i 844) ww_843 ww_844)) (cond (Nat.blt i 846) ww_845 (cond (Nat.blt i 847) ww_846 ww_847))) (cond (Nat.blt i 851) (cond (Nat.blt i 849) ww_848 (cond (Nat.blt i 850) ww_849 ww_850)) (cond (Nat.blt i 852) ww_851 (cond (Nat.blt i 853) ww_852 ww_853)))))) (cond (Nat.blt i 876) (cond (Nat.blt i 865) (cond (Nat.blt i 859) (cond (Nat.blt i 856) (cond (Nat.blt i 855) ww_854 ww_855) (cond (Nat.blt i 857) ww_856 (cond (Nat.blt i 858) ww_857 ww_858))) (cond (Nat.blt i 862) (cond (Nat.blt i 860) ww_859 (cond (Nat.blt i 861) ww_860 ww_861)) (cond (Nat.blt i 863) ww_862 (cond (Nat.blt i 864) ww_863 ww_864)))) (cond (Nat.blt i 870) (cond (Nat.blt i 867) (cond (Nat.blt i 866) ww_865 ww_866) (cond (Nat.blt i 868) ww_867 (cond (Nat.blt i 869) ww_868 ww_869))) (cond (Nat.blt i 873) (cond (Nat.blt i 871) ww_870 (cond (Nat.blt i 872) ww_871 ww_872)) (cond (Nat.blt i 874) ww_873 (cond (Nat.blt i 875) ww_874 ww_875))))) (cond (Nat.blt i 887) (cond (Nat.blt i 881) (cond (Nat.blt i 878) (cond (Nat.blt i 877) ww_876 ww_877) (cond (Nat.blt i 879) ww_878 (cond (Nat.blt i 880) ww_879 ww_880))) (cond (Nat.blt i 884) (cond (Nat.blt i 882) ww_881 (cond (Nat.blt i 883) ww_882 ww_883)) (cond (Nat.blt i 885) ww_884 (cond (Nat.blt i 886) ww_885 ww_886)))) (cond (Nat.blt i 893) (cond (Nat.blt i 890) (cond (Nat.blt i 888) ww_887 (cond (Nat.blt i 889) ww_888 ww_889)) (cond (Nat.blt i 891) ww_890 (cond (Nat.blt i 892) ww_891 ww_892))) (cond (Nat.blt i 896) (cond (Nat.blt i 894) ww_893 (cond (Nat.blt i 895) ww_894 ww_895)) (cond (Nat.blt i 897) ww_896 (cond (Nat.blt i 898) ww_897 ww_898)))))))) (cond (Nat.blt i 989) (cond (Nat.blt i 944) (cond (Nat.blt i 921) (cond (Nat.blt i 910) (cond (Nat.blt i 904) (cond (Nat.blt i 901) (cond (Nat.blt i 900) ww_899 ww_900) (cond (Nat.blt i 902) ww_901 (cond (Nat.blt i 903) ww_902 ww_903))) (cond (Nat.blt i 907) (cond (Nat.blt i 905) ww_904 (cond (Nat.blt i 906) ww_905 ww_906)) (cond (Nat.blt i 908) ww_907 (cond (Nat.blt i 909) ww_908 ww_909)))) (cond (Nat.blt i 915) (cond (Nat.blt i 912) (cond (Nat.blt i 911) ww_910 ww_911) (cond (Nat.blt i 913) ww_912 (cond (Nat.blt i 914) ww_913 ww_914))) (cond (Nat.blt i 918) (cond (Nat.blt i 916) ww_915 (cond (Nat.blt i 917) ww_916 ww_917)) (cond (Nat.blt i 919) ww_918 (cond (Nat.blt i 920) ww_919 ww_920))))) (cond (Nat.blt i 932) (cond (Nat.blt i 926) (cond (Nat.blt i 923) (cond (Nat.blt i 922) ww_921 ww_922) (cond (Nat.blt i 924) ww_923 (cond (Nat.blt i 925) ww_924 ww_925))) (cond (Nat.blt i 929) (cond (Nat.blt i 927) ww_926 (cond (Nat.blt i 928) ww_927 ww_928)) (cond (Nat.blt i 930) ww_929 (cond (Nat.blt i 931) ww_930 ww_931)))) (cond (Nat.blt i 938) (cond (Nat.blt i 935) (cond (Nat.blt i 933) ww_932 (cond (Nat.blt i 934) ww_933 ww_934)) (cond (Nat.blt i 936) ww_935 (cond (Nat.blt i 937) ww_936 ww_937))) (cond (Nat.blt i 941) (cond (Nat.blt i 939) ww_938 (cond (Nat.blt i 940) ww_939 ww_940)) (cond (Nat.blt i 942) ww_941 (cond (Nat.blt i 943) ww_942 ww_943)))))) (cond (Nat.blt i 966) (cond (Nat.blt i 955) (cond (Nat.blt i 949) (cond (Nat.blt i 946) (cond (Nat.blt i 945) ww_944 ww_945) (cond (Nat.blt i 947) ww_946 (cond (Nat.blt i 948) ww_947 ww_948))) (cond (Nat.blt i 952) (cond (Nat.blt i 950) ww_949 (cond (Nat.blt i 951) ww_950 ww_951)) (cond (Nat.blt i 953) ww_952 (cond (Nat.blt i 954) ww_953 ww_954)))) (cond (Nat.blt i 960) (cond (Nat.blt i 957) (cond (Nat.blt i 956) ww_955 ww_956) (cond (Nat.blt i 958) ww_957 (cond (Nat.blt i 959) ww_958 ww_959))) (cond (Nat.blt i 963) (cond (Nat.blt i 961) ww_960 (cond (Nat.blt i 962) ww_961 ww_962)) (cond (Nat.blt i 964) ww_963 (cond (Nat.blt i 965) ww_964 ww_965))))) (cond (Nat.blt i 977) (cond (Nat.blt i 971) (cond (Nat.blt i 968) (cond (Nat.blt i 967) ww_966 ww_967) (cond (Nat.blt i 969) ww_968 (cond (Nat.blt i 970) ww_969 ww_970))) (cond (Nat.blt i 974) (cond (Nat.blt i 972) ww_971 (cond (Nat.blt i 973) ww_972 ww_973)) (cond (Nat.blt i 975) ww_974 (cond (Nat.blt i 976) ww_975 ww_976)))) (cond (Nat.blt i 983) (cond (Nat.blt i 980) (cond (Nat.blt i 978) ww_977 (cond (Nat.blt i 979) ww_978 ww_979)) (cond (Nat.blt i 981) ww_980 (cond (Nat.blt i 982) ww_981 ww_982))) (cond (Nat.blt i 986) (cond (Nat.blt i 984) ww_983 (cond (Nat.blt i 985) ww_984 ww_985)) (cond (Nat.blt i 987) ww_986 (cond (Nat.blt i 988) ww_987 ww_988))))))) (cond (Nat.blt i 1034) (cond (Nat.blt i 1011) (cond (Nat.blt i 1000) (cond (Nat.blt i 994) (cond (Nat.blt i 991) (cond (Nat.blt i 990) ww_989 ww_990) (cond (Nat.blt i 992) ww_991 (cond (Nat.blt i 993) ww_992 ww_993))) (cond (Nat.blt i 997) (cond (Nat.blt i 995) ww_994 (cond (Nat.blt i 996) ww_995 ww_996)) (cond (Nat.blt i 998) ww_997 (cond (Nat.blt i 999) ww_998 ww_999)))) (cond (Nat.blt i 1005) (cond (Nat.blt i 1002) (cond (Nat.blt i 1001) ww_1000 ww_1001) (cond (Nat.blt i 1003) ww_1002 (cond (Nat.blt i 1004) ww_1003 ww_1004))) (cond (Nat.blt i 1008) (cond (Nat.blt i 1006) ww_1005 (cond (Nat.blt i 1007) ww_1006 ww_1007)) (cond (Nat.blt i 1009) ww_1008 (cond (Nat.blt i 1010) ww_1009 ww_1010))))) (cond (Nat.blt i 1022) (cond (Nat.blt i 1016) (cond (Nat.blt i 1013) (cond (Nat.blt i 1012) ww_1011 ww_1012) (cond (Nat.blt i 1014) ww_1013 (cond (Nat.blt i 1015) ww_1014 ww_1015))) (cond (Nat.blt i 1019) (cond (Nat.blt i 1017) ww_1016 (cond (Nat.blt i 1018) ww_1017 ww_1018)) (cond (Nat.blt i 1020) ww_1019 (cond (Nat.blt i 1021) ww_1020 ww_1021)))) (cond (Nat.blt i 1028) (cond (Nat.blt i 1025) (cond (Nat.blt i 1023) ww_1022 (cond (Nat.blt i 1024) ww_1023 ww_1024)) (cond (Nat.blt i 1026) ww_1025 (cond (Nat.blt i 1027) ww_1026 ww_1027))) (cond (Nat.blt i 1031) (cond (Nat.blt i 1029) ww_1028 (cond (Nat.blt i 1030) ww_1029 ww_1030)) (cond (Nat.blt i 1032) ww_1031 (cond (Nat.blt i 1033) ww_1032 ww_1033)))))) (cond (Nat.blt i 1056) (cond (Nat.blt i 1045) (cond (Nat.blt i 1039) (cond (Nat.blt i 1036) (cond (Nat.blt i 1035) ww_1034 ww_1035) (cond (Nat.blt i 1037) ww_1036 (cond (Nat.blt i 1038) ww_1037 ww_1038))) (cond (Nat.blt i 1042) (cond (Nat.blt i 1040) ww_1039 (cond (Nat.blt i 1041) ww_1040 ww_1041)) (cond (Nat.blt i 1043) ww_1042 (cond (Nat.blt i 1044) ww_1043 ww_1044)))) (cond (Nat.blt i 1050) (cond (Nat.blt i 1047) (cond (Nat.blt i 1046) ww_1045 ww_1046) (cond (Nat.blt i 1048) ww_1047 (cond (Nat.blt i 1049) ww_1048 ww_1049))) (cond (Nat.blt i 1053) (cond (Nat.blt i 1051) ww_1050 (cond (Nat.blt i 1052) ww_1051 ww_1052)) (cond (Nat.blt i 1054) ww_1053 (cond (Nat.blt i 1055) ww_1054 ww_1055))))) (cond (Nat.blt i 1067) (cond (Nat.blt i 1061) (cond (Nat.blt i 1058) (cond (Nat.blt i 1057) ww_1056 ww_1057) (cond (Nat.blt i 1059) ww_1058 (cond (Nat.blt i 1060) ww_1059 ww_1060))) (cond (Nat.blt i 1064) (cond (Nat.blt i 1062) ww_1061 (cond (Nat.blt i 1063) ww_1062 ww_1063)) (cond (Nat.blt i 1065) ww_1064 (cond (Nat.blt i 1066) ww_1065 ww_1066)))) (cond (Nat.blt i 1073) (cond (Nat.blt i 1070) (cond (Nat.blt i 1068) ww_1067 (cond (Nat.blt i 1069) ww_1068 ww_1069)) (cond (Nat.blt i 1071) ww_1070 (cond (Nat.blt i 1072) ww_1071 ww_1072))) (cond (Nat.blt i 1076) (cond (Nat.blt i 1074) ww_1073 (cond (Nat.blt i 1075) ww_1074 ww_1075)) (cond (Nat.blt i 1077) ww_1076 (cond (Nat.blt i 1078) ww_1077 ww_1078))))))))) (cond (Nat.blt i 1259) (cond (Nat.blt i 1169) (cond (Nat.blt i 1124) (cond (Nat.blt i 1101) (cond (Nat.blt i 1090) (cond (Nat.blt i 1084) (cond (Nat.blt i 1081) (cond (Nat.blt i 1080) ww_1079 ww_1080) (cond (Nat.blt i 1082) ww_1081 (cond (Nat.blt i 1083) ww_1082 ww_1083))) (cond (Nat.blt i 1087) (cond (Nat.blt i 1085) ww_1084 (cond (Nat.blt i 1086) ww_1085 ww_1086)) (cond (Nat.blt i 1088) ww_1087 (cond (Nat.blt i 1089) ww_1088 ww_1089)))) (cond (Nat.blt i 1095) (cond (Nat.blt i 1092) (cond (Nat.blt i 1091) ww_1090 ww_1091) (cond (Nat.blt i 1093) ww_1092 (cond (Nat.blt i 1094) ww_1093 ww_1094))) (cond (Nat.blt i 1098) (cond (Nat.blt i 1096) ww_1095 (cond (Nat.blt i 1097) ww_1096 ww_1097)) (cond (Nat.blt i 1099) ww_1098 (cond (Nat.blt i 1100) ww_1099 ww_1100))))) (cond (Nat.blt i 1112) (cond (Nat.blt i 1106) (cond (Nat.blt i 1103) (cond (Nat.blt i 1102) ww_1101 ww_1102) (cond (Nat.blt i 1104) ww_1103 (cond (Nat.blt i 1105) ww_1104 ww_1105))) (cond (Nat.blt i 1109) (cond (Nat.blt i 1107) ww_1106 (cond (Nat.blt i 1108) ww_1107 ww_1108)) (cond (Nat.blt i 1110) ww_1109 (cond (Nat.blt i 1111) ww_1110 ww_1111)))) (cond (Nat.blt i 1118) (cond (Nat.blt i 1115) (cond (Nat.blt i 1113) ww_1112 (cond (Nat.blt i 1114) ww_1113 ww_1114)) (cond (Nat.blt i 1116) ww_1115 (cond (Nat.blt i 1117) ww_1116 ww_1117))) (cond (Nat.blt i 1121) (cond (Nat.blt i 1119) ww_1118 (cond (Nat.blt i 1120) ww_1119 ww_1120)) (cond (Nat.blt i 1122) ww_1121 (cond (Nat.blt i 1123) ww_1122 ww_1123)))))) (cond (Nat.blt i 1146) (cond (Nat.blt i 1135) (cond (Nat.blt i 1129) (cond (Nat.blt i 1126) (cond (Nat.blt i 1125) ww_1124 ww_1125) (cond (Nat.blt i 1127) ww_1126 (cond (Nat.blt i 1128) ww_1127 ww_1128))) (cond (Nat.blt i 1132) (cond (Nat.blt i 1130) ww_1129 (cond (Nat.blt i 1131) ww_1130 ww_1131)) (cond (Nat.blt i 1133) ww_1132 (cond (Nat.blt i 1134) ww_1133 ww_1134)))) (cond (Nat.blt i 1140) (cond (Nat.blt i 1137) (cond (Nat.blt i 1136) ww_1135 ww_1136) (cond (Nat.blt i 1138) ww_1137 (cond (Nat.blt i 1139) ww_1138 ww_1139))) (cond (Nat.blt i 1143) (cond (Nat.blt i 1141) ww_1140 (cond (Nat.blt i 1142) ww_1141 ww_1142)) (cond (Nat.blt i 1144) ww_1143 (cond (Nat.blt i 1145) ww_1144 ww_1145))))) (cond (Nat.blt i 1157) (cond (Nat.blt i 1151) (cond (Nat.blt i 1148) (cond (Nat.blt i 1147) ww_1146 ww_1147) (cond (Nat.blt i 1149) ww_1148 (cond (Nat.blt i 1150) ww_1149 ww_1150))) (cond (Nat.blt i 1154) (cond (Nat.blt i 1152) ww_1151 (cond (Nat.blt i 1153) ww_1152 ww_1153)) (cond (Nat.blt i 1155) ww_1154 (cond (Nat.blt i 1156) ww_1155 ww_1156)))) (cond (Nat.blt i 1163) (cond (Nat.blt i 1160) (cond (Nat.blt i 1158) ww_1157 (cond (Nat.blt i 1159) ww_1158 ww_1159)) (cond (Nat.blt i 1161) ww_1160 (cond (Nat.blt i 1162) ww_1161 ww_1162))) (cond (Nat.blt i 1166) (cond (Nat.blt i 1164) ww_1163 (cond (Nat.blt i 1165) ww_1164 ww_1165)) (cond (Nat.blt i 1167) ww_1166 (cond (Nat.blt i 1168) ww_1167 ww_1168))))))) (cond (Nat.blt i 1214) (cond (Nat.blt i 1191) (cond (Nat.blt i 1180) (cond (Nat.blt i 1174) (cond (Nat.blt i 1171) (cond (Nat.blt i 1170) ww_1169 ww_1170) (cond (Nat.blt i 1172) ww_1171 (cond (Nat.blt i 1173) ww_1172 ww_1173))) (cond (Nat.blt i 1177) (cond (Nat.blt i 1175) ww_1174 (cond (Nat.blt i 1176) ww_1175 ww_1176)) (cond (Nat.blt i 1178) ww_1177 (cond (Nat.blt i 1179) ww_1178 ww_1179)))) (cond (Nat.blt i 1185) (cond (Nat.blt i 1182) (cond (Nat.blt i 1181) ww_1180 ww_1181) (cond (Nat.blt i 1183) ww_1182 (cond (Nat.blt i 1184) ww_1183 ww_1184))) (cond (Nat.blt i 1188) (cond (Nat.blt i 1186) ww_1185 (cond (Nat.blt i 1187) ww_1186 ww_1187)) (cond (Nat.blt i 1189) ww_1188 (cond (Nat.blt i 1190) ww_1189 ww_1190))))) (cond (Nat.blt i 1202) (cond (Nat.blt i 1196) (cond (Nat.blt i 1193) (cond (Nat.blt i 1192) ww_1191 ww_1192) (cond (Nat.blt i 1194) ww_1193 (cond (Nat.blt i 1195) ww_1194 ww_1195))) (cond (Nat.blt i 1199) (cond (Nat.blt i 1197) ww_1196 (cond (Nat.blt i 1198) ww_1197 ww_1198)) (cond (Nat.blt i 1200) ww_1199 (cond (Nat.blt i 1201) ww_1200 ww_1201)))) (cond (Nat.blt i 1208) (cond (Nat.blt i 1205) (cond (Nat.blt i 1203) ww_1202 (cond (Nat.blt i 1204) ww_1203 ww_1204)) (cond (Nat.blt i 1206) ww_1205 (cond (Nat.blt i 1207) ww_1206 ww_1207))) (cond (Nat.blt i 1211) (cond (Nat.blt i 1209) ww_1208 (cond (Nat.blt i 1210) ww_1209 ww_1210)) (cond (Nat.blt i 1212) ww_1211 (cond (Nat.blt i 1213) ww_1212 ww_1213)))))) (cond (Nat.blt i 1236) (cond (Nat.blt i 1225) (cond (Nat.blt i 1219) (cond (Nat.blt i 1216) (cond (Nat.blt i 1215) ww_1214 ww_1215) (cond (Nat.blt i 1217) ww_1216 (cond (Nat.blt i 1218) ww_1217 ww_1218))) (cond (Nat.blt i 1222) (cond (Nat.blt i 1220) ww_1219 (cond (Nat.blt i 1221) ww_1220 ww_1221)) (cond (Nat.blt i 1223) ww_1222 (cond (Nat.blt i 1224) ww_1223 ww_1224)))) (cond (Nat.blt i 1230) (cond (Nat.blt i 1227) (cond (Nat.blt i 1226) ww_1225 ww_1226) (cond (Nat.blt i 1228) ww_1227 (cond (Nat.blt i 1229) ww_1228 ww_1229))) (cond (Nat.blt i 1233) (cond (Nat.blt i 1231) ww_1230 (cond (Nat.blt i 1232) ww_1231 ww_1232)) (cond (Nat.blt i 1234) ww_1233 (cond (Nat.blt i 1235) ww_1234 ww_1235))))) (cond (Nat.blt i 1247) (cond (Nat.blt i 1241) (cond (Nat.blt i 1238) (cond (Nat.blt i 1237) ww_1236 ww_1237) (cond (Nat.blt i 1239) ww_1238 (cond (Nat.blt i 1240) ww_1239 ww_1240))) (cond (Nat.blt i 1244) (cond (Nat.blt i 1242) ww_1241 (cond (Nat.blt i 1243) ww_1242 ww_1243)) (cond (Nat.blt i 1245) ww_1244 (cond (Nat.blt i 1246) ww_1245 ww_1246)))) (cond (Nat.blt i 1253) (cond (Nat.blt i 1250) (cond (Nat.blt i 1248) ww_1247 (cond (Nat.blt i 1249) ww_1248 ww_1249)) (cond (Nat.blt i 1251) ww_1250 (cond (Nat.blt i 1252) ww_1251 ww_1252))) (cond (Nat.blt i 1256) (cond (Nat.blt i 1254) ww_1253 (cond (Nat.blt i 1255) ww_1254 ww_1255)) (cond (Nat.blt i 1257) ww_1256 (cond (Nat.blt i 1258) ww_1257 ww_1258)))))))) (cond (Nat.blt i 1349) (cond (Nat.blt i 1304) (cond (Nat.blt i 1281) (cond (Nat.blt i 1270) (cond (Nat.blt i 1264) (cond (Nat.blt i 1261) (cond (Nat.blt i 1260) ww_1259 ww_1260) (cond (Nat.blt i 1262) ww_1261 (cond (Nat.blt i 1263) ww_1262 ww_1263))) (cond (Nat.blt i 1267) (cond (Nat.blt i 1265) ww_1264 (cond (Nat.blt i 1266) ww_1265 ww_1266)) (cond (Nat.blt i 1268) ww_1267 (cond (Nat.blt i 1269) ww_1268 ww_1269)))) (cond (Nat.blt i 1275) (cond (Nat.blt i 1272) (cond (Nat.blt i 1271) ww_1270 ww_1271) (cond (Nat.blt i 1273) ww_1272 (cond (Nat.blt i 1274) ww_1273 ww_1274))) (cond (Nat.blt i 1278) (cond (Nat.blt i 1276) ww_1275 (cond (Nat.blt i 1277) ww_1276 ww_1277)) (cond (Nat.blt i 1279) ww_1278 (cond (Nat.blt i 1280) ww_1279 ww_1280))))) (cond (Nat.blt i 1292) (cond (Nat.blt i 1286) (cond (Nat.blt i 1283) (cond (Nat.blt i 1282) ww_1281 ww_1282) (cond (Nat.blt i 1284) ww_1283 (cond (Nat.blt i 1285) ww_1284 ww_1285))) (cond (Nat.blt i 1289) (cond (Nat.blt i 1287) ww_1286 (cond (Nat.blt i 1288) ww_1287 ww_1288)) (cond (Nat.blt i 1290) ww_1289 (cond (Nat.blt i 1291) ww_1290 ww_1291)))) (cond (Nat.blt i 1298) (cond (Nat.blt i 1295) (cond (Nat.blt i 1293) ww_1292 (cond (Nat.blt i 1294) ww_1293 ww_1294)) (cond (Nat.blt i 1296) ww_1295 (cond (Nat.blt i 1297) ww_1296 ww_1297))) (cond (Nat.blt i 1301) (cond (Nat.blt i 1299) ww_1298 (cond (Nat.blt i 1300) ww_1299 ww_1300)) (cond (Nat.blt i 1302) ww_1301 (cond (Nat.blt i 1303) ww_1302 ww_1303)))))) (cond (Nat.blt i 1326) (cond (Nat.blt i 1315) (cond (Nat.blt i 1309) (cond (Nat.blt i 1306) (cond (Nat.blt i 1305) ww_1304 ww_1305) (cond (Nat.blt i 1307) ww_1306 (cond (Nat.blt i 1308) ww_1307 ww_1308))) (cond (Nat.blt i 1312) (cond (Nat.blt i 1310) ww_1309 (cond (Nat.blt i 1311) ww_1310 ww_1311)) (cond (Nat.blt i 1313) ww_1312 (cond (Nat.blt i 1314) ww_1313 ww_1314)))) (cond (Nat.blt i 1320) (cond (Nat.blt i 1317) (cond (Nat.blt i 1316) ww_1315 ww_1316) (cond (Nat.blt i 1318) ww_1317 (cond (Nat.blt i 1319) ww_1318 ww_1319))) (cond (Nat.blt i 1323) (cond (Nat.blt i 1321) ww_1320 (cond (Nat.blt i 1322) ww_1321 ww_1322)) (cond (Nat.blt i 1324) ww_1323 (cond (Nat.blt i 1325) ww_1324 ww_1325))))) (cond (Nat.blt i 1337) (cond (Nat.blt i 1331) (cond (Nat.blt i 1328) (cond (Nat.blt i 1327) ww_1326 ww_1327) (cond (Nat.blt i 1329) ww_1328 (cond (Nat.blt i 1330) ww_1329 ww_1330))) (cond (Nat.blt i 1334) (cond (Nat.blt i 1332) ww_1331 (cond (Nat.blt i 1333) ww_1332 ww_1333)) (cond (Nat.blt i 1335) ww_1334 (cond (Nat.blt i 1336) ww_1335 ww_1336)))) (cond (Nat.blt i 1343) (cond (Nat.blt i 1340) (cond (Nat.blt i 1338) ww_1337 (cond (Nat.blt i 1339) ww_1338 ww_1339)) (cond (Nat.blt i 1341) ww_1340 (cond (Nat.blt i 1342) ww_1341 ww_1342))) (cond (Nat.blt i 1346) (cond (Nat.blt i 1344) ww_1343 (cond (Nat.blt i 1345) ww_1344 ww_1345)) (cond (Nat.blt i 1347) ww_1346 (cond (Nat.blt i 1348) ww_1347 ww_1348))))))) (cond (Nat.blt i 1394) (cond (Nat.blt i 1371) (cond (Nat.blt i 1360) (cond (Nat.blt i 1354) (cond (Nat.blt i 1351) (cond (Nat.blt i 1350) ww_1349 ww_1350) (cond (Nat.blt i 1352) ww_1351 (cond (Nat.blt i 1353) ww_1352 ww_1353))) (cond (Nat.blt i 1357) (cond (Nat.blt i 1355) ww_1354 (cond (Nat.blt i 1356) ww_1355 ww_1356)) (cond (Nat.blt i 1358) ww_1357 (cond (Nat.blt i 1359) ww_1358 ww_1359)))) (cond (Nat.blt i 1365) (cond (Nat.blt i 1362) (cond (Nat.blt i 1361) ww_1360 ww_1361) (cond (Nat.blt i 1363) ww_1362 (cond (Nat.blt i 1364) ww_1363 ww_1364))) (cond (Nat.blt i 1368) (cond (Nat.blt i 1366) ww_1365 (cond (Nat.blt i 1367) ww_1366 ww_1367)) (cond (Nat.blt i 1369) ww_1368 (cond (Nat.blt i 1370) ww_1369 ww_1370))))) (cond (Nat.blt i 1382) (cond (Nat.blt i 1376) (cond (Nat.blt i 1373) (cond (Nat.blt i 1372) ww_1371 ww_1372) (cond (Nat.blt i 1374) ww_1373 (cond (Nat.blt i 1375) ww_1374 ww_1375))) (cond (Nat.blt i 1379) (cond (Nat.blt i 1377) ww_1376 (cond (Nat.blt i 1378) ww_1377 ww_1378)) (cond (Nat.blt i 1380) ww_1379 (cond (Nat.blt i 1381) ww_1380 ww_1381)))) (cond (Nat.blt i 1388) (cond (Nat.blt i 1385) (cond (Nat.blt i 1383) ww_1382 (cond (Nat.blt i 1384) ww_1383 ww_1384)) (cond (Nat.blt i 1386) ww_1385 (cond (Nat.blt i 1387) ww_1386 ww_1387))) (cond (Nat.blt i 1391) (cond (Nat.blt i 1389) ww_1388 (cond (Nat.blt i 1390) ww_1389 ww_1390)) (cond (Nat.blt i 1392) ww_1391 (cond (Nat.blt i 1393) ww_1392 ww_1393)))))) (cond (Nat.blt i 1416) (cond (Nat.blt i 1405) (cond (Nat.blt i 1399) (cond (Nat.blt i 1396) (cond (Nat.blt i 1395) ww_1394 ww_1395) (cond (Nat.blt i 1397) ww_1396 (cond (Nat.blt i 1398) ww_1397 ww_1398))) (cond (Nat.blt i 1402) (cond (Nat.blt i 1400) ww_1399 (cond (Nat.blt i 1401) ww_1400 ww_1401)) (cond (Nat.blt i 1403) ww_1402 (cond (Nat.blt i 1404) ww_1403 ww_1404)))) (cond (Nat.blt i 1410) (cond (Nat.blt i 1407) (cond (Nat.blt i 1406) ww_1405 ww_1406) (cond (Nat.blt i 1408) ww_1407 (cond (Nat.blt i 1409) ww_1408 ww_1409))) (cond (Nat.blt i 1413) (cond (Nat.blt i 1411) ww_1410 (cond (Nat.blt i 1412) ww_1411 ww_1412)) (cond (Nat.blt i 1414) ww_1413 (cond (Nat.blt i 1415) ww_1414 ww_1415))))) (cond (Nat.blt i 1427) (cond (Nat.blt i 1421) (cond (Nat.blt i 1418) (cond (Nat.blt i 1417) ww_1416 ww_1417) (cond (Nat.blt i 1419) ww_1418 (cond (Nat.blt i 1420) ww_1419 ww_1420))) (cond (Nat.blt i 1424) (cond (Nat.blt i 1422) ww_1421 (cond (Nat.blt i 1423) ww_1422 ww_1423)) (cond (Nat.blt i 1425) ww_1424 (cond (Nat.blt i 1426) ww_1425 ww_1426)))) (cond (Nat.blt i 1433) (cond (Nat.blt i 1430) (cond (Nat.blt i 1428) ww_1427 (cond (Nat.blt i 1429) ww_1428 ww_1429)) (cond (Nat.blt i 1431) ww_1430 (cond (Nat.blt i 1432) ww_1431 ww_1432))) (cond (Nat.blt i 1436) (cond (Nat.blt i 1434) ww_1433 (cond (Nat.blt i 1435) ww_1434 ww_1435)) (cond (Nat.blt i 1437) ww_1436 (cond (Nat.blt i 1438) ww_1437 ww_1438)))))))))))
theorem mj_wi_in (i : Nat) : mj_wi i ∈ mj_tb := by
  show (fun w => w ∈ mj_tb) (mj_wi i)
  unfold mj_wi
  exact (mj_condw (mj_condw (mj_condw (mj_condw (mj_condw (mj_condw (mj_condw (mj_condw (mj_condw (mj_condw wi_0 wi_1) (mj_condw wi_2 (mj_condw wi_3 wi_4))) (mj_condw (mj_condw wi_5 (mj_condw wi_6 wi_7)) (mj_condw wi_8 (mj_condw wi_9 wi_10)))) (mj_condw (mj_condw (mj_condw wi_11 wi_12) (mj_condw wi_13 (mj_condw wi_14 wi_15))) (mj_condw (mj_condw wi_16 (mj_condw wi_17 wi_18)) (mj_condw wi_19 (mj_condw wi_20 wi_21))))) (mj_condw (mj_condw (mj_condw (mj_condw wi_22 wi_23) (mj_condw wi_24 (mj_condw wi_25 wi_26))) (mj_condw (mj_condw wi_27 (mj_condw wi_28 wi_29)) (mj_condw wi_30 (mj_condw wi_31 wi_32)))) (mj_condw (mj_condw (mj_condw wi_33 wi_34) (mj_condw wi_35 (mj_condw wi_36 wi_37))) (mj_condw (mj_condw wi_38 (mj_condw wi_39 wi_40)) (mj_condw wi_41 (mj_condw wi_42 wi_43)))))) (mj_condw (mj_condw (mj_condw (mj_condw (mj_condw wi_44 wi_45) (mj_condw wi_46 (mj_condw wi_47 wi_48))) (mj_condw (mj_condw wi_49 (mj_condw wi_50 wi_51)) (mj_condw wi_52 (mj_condw wi_53 wi_54)))) (mj_condw (mj_condw (mj_condw wi_55 wi_56) (mj_condw wi_57 (mj_condw wi_58 wi_59))) (mj_condw (mj_condw wi_60 (mj_condw wi_61 wi_62)) (mj_condw wi_63 (mj_condw wi_64 wi_65))))) (mj_condw (mj_condw (mj_condw (mj_condw wi_66 wi_67) (mj_condw wi_68 (mj_condw wi_69 wi_70))) (mj_condw (mj_condw wi_71 (mj_condw wi_72 wi_73)) (mj_condw wi_74 (mj_condw wi_75 wi_76)))) (mj_condw (mj_condw (mj_condw wi_77 (mj_condw wi_78 wi_79)) (mj_condw wi_80 (mj_condw wi_81 wi_82))) (mj_condw (mj_condw wi_83 (mj_condw wi_84 wi_85)) (mj_condw wi_86 (mj_condw wi_87 wi_88))))))) (mj_condw (mj_condw (mj_condw (mj_condw (mj_condw (mj_condw wi_89 wi_90) (mj_condw wi_91 (mj_condw wi_92 wi_93))) (mj_condw (mj_condw wi_94 (mj_condw wi_95 wi_96)) (mj_condw wi_97 (mj_condw wi_98 wi_99)))) (mj_condw (mj_condw (mj_condw wi_100 wi_101) (mj_condw wi_102 (mj_condw wi_103 wi_104))) (mj_condw (mj_condw wi_105 (mj_condw wi_106 wi_107)) (mj_condw wi_108 (mj_condw wi_109 wi_110))))) (mj_condw (mj_condw (mj_condw (mj_condw wi_111 wi_112) (mj_condw wi_113 (mj_condw wi_114 wi_115))) (mj_condw (mj_condw wi_116 (mj_condw wi_117 wi_118)) (mj_condw wi_119 (mj_condw wi_120 wi_121)))) (mj_condw (mj_condw (mj_condw wi_122 (mj_condw wi_123 wi_124)) (mj_condw wi_125 (mj_condw wi_126 wi_127))) (mj_condw (mj_condw wi_128 (mj_condw wi_129 wi_130)) (mj_condw wi_131 (mj_condw wi_132 wi_133)))))) (mj_condw (mj_condw (mj_condw (mj_condw (mj_condw wi_134 wi_135) (mj_condw wi_136 (mj_condw wi_137 wi_138))) (mj_condw (mj_condw wi_139 (mj_condw wi_140 wi_141)) (mj_condw wi_142 (mj_condw wi_143 wi_144)))) (mj_condw (mj_condw (mj_condw wi_145 wi_146) (mj_condw wi_147 (mj_condw wi_148 wi_149))) (mj_condw (mj_condw wi_150 (mj_condw wi_151 wi_152)) (mj_condw wi_153 (mj_condw wi_154 wi_155))))) (mj_condw (mj_condw (mj_condw (mj_condw wi_156 wi_157) (mj_condw wi_158 (mj_condw wi_159 wi_160))) (mj_condw (mj_condw wi_161 (mj_condw wi_162 wi_163)) (mj_condw wi_164 (mj_condw wi_165 wi_166)))) (mj_condw (mj_condw (mj_condw wi_167 (mj_condw wi_168 wi_169)) (mj_condw wi_170 (mj_condw wi_171 wi_172))) (mj_condw (mj_condw wi_173 (mj_condw wi_174 wi_175)) (mj_condw wi_176 (mj_condw wi_177 wi_178)))))))) (mj_condw (mj_condw (mj_condw (mj_condw (mj_condw (mj_condw (mj_condw wi_179 wi_180) (mj_condw wi_181 (mj_condw wi_182 wi_183))) (mj_condw (mj_condw wi_184 (mj_condw wi_185 wi_186)) (mj_condw wi_187 (mj_condw wi_188 wi_189)))) (mj_condw (mj_condw (mj_condw wi_190 wi_191) (mj_condw wi_192 (mj_condw wi_193 wi_194))) (mj_condw (mj_condw wi_195 (mj_condw wi_196 wi_197)) (mj_condw wi_198 (mj_condw wi_199 wi_200))))) (mj_condw (mj_condw (mj_condw (mj_condw wi_201 wi_202) (mj_condw wi_203 (mj_condw wi_204 wi_205))) (mj_condw (mj_condw wi_206 (mj_condw wi_207 wi_208)) (mj_condw wi_209 (mj_condw wi_210 wi_211)))) (mj_condw (mj_condw (mj_condw wi_212 (mj_condw wi_213 wi_214)) (mj_condw wi_215 (mj_condw wi_216 wi_217))) (mj_condw (mj_condw wi_218 (mj_condw wi_219 wi_220)) (mj_condw wi_221 (mj_condw wi_222 wi_223)))))) (mj_condw (mj_condw (mj_condw (mj_condw (mj_condw wi_224 wi_225) (mj_condw wi_226 (mj_condw wi_227 wi_228))) (mj_condw (mj_condw wi_229 (mj_condw wi_230 wi_231)) (mj_condw wi_232 (mj_condw wi_233 wi_234)))) (mj_condw (mj_condw (mj_condw wi_235 wi_236) (mj_condw wi_237 (mj_condw wi_238 wi_239))) (mj_condw (mj_condw wi_240 (mj_condw wi_241 wi_242)) (mj_condw wi_243 (mj_condw wi_244 wi_245))))) (mj_condw (mj_condw (mj_condw (mj_condw wi_246 wi_247) (mj_condw wi_248 (mj_condw wi_249 wi_250))) (mj_condw (mj_condw wi_251 (mj_condw wi_252 wi_253)) (mj_condw wi_254 (mj_condw wi_255 wi_256)))) (mj_condw (mj_condw (mj_condw wi_257 (mj_condw wi_258 wi_259)) (mj_condw wi_260 (mj_condw wi_261 wi_262))) (mj_condw (mj_condw wi_263 (mj_condw wi_264 wi_265)) (mj_condw wi_266 (mj_condw wi_267 wi_268))))))) (mj_condw (mj_condw (mj_condw (mj_condw (mj_condw (mj_condw wi_269 wi_270) (mj_condw wi_271 (mj_condw wi_272 wi_273))) (mj_condw (mj_condw wi_274 (mj_condw wi_275 wi_276)) (mj_condw wi_277 (mj_condw wi_278 wi_279)))) (mj_condw (mj_condw (mj_condw wi_280 wi_281) (mj_condw wi_282 (mj_condw wi_283 wi_284))) (mj_condw (mj_condw wi_285 (mj_condw wi_286 wi_287)) (mj_condw wi_288 (mj_condw wi_289 wi_290))))) (mj_condw (mj_condw (mj_condw (mj_condw wi_291 wi_292) (mj_condw wi_293 (mj_condw wi_294 wi_295))) (mj_condw (mj_condw wi_296 (mj_condw wi_297 wi_298)) (mj_condw wi_299 (mj_condw wi_300 wi_301)))) (mj_condw (mj_condw (mj_condw wi_302 (mj_condw wi_303 wi_304)) (mj_condw wi_305 (mj_condw wi_306 wi_307))) (mj_condw (mj_condw wi_308 (mj_condw wi_309 wi_310)) (mj_condw wi_311 (mj_condw wi_312 wi_313)))))) (mj_condw (mj_condw (mj_condw (mj_condw (mj_condw wi_314 wi_315) (mj_condw wi_316 (mj_condw wi_317 wi_318))) (mj_condw (mj_condw wi_319 (mj_condw wi_320 wi_321)) (mj_condw wi_322 (mj_condw wi_323 wi_324)))) (mj_condw (mj_condw (mj_condw wi_325 wi_326) (mj_condw wi_327 (mj_condw wi_328 wi_329))) (mj_condw (mj_condw wi_330 (mj_condw wi_331 wi_332)) (mj_condw wi_333 (mj_condw wi_334 wi_335))))) (mj_condw (mj_condw (mj_condw (mj_condw wi_336 wi_337) (mj_condw wi_338 (mj_condw wi_339 wi_340))) (mj_condw (mj_condw wi_341 (mj_condw wi_342 wi_343)) (mj_condw wi_344 (mj_condw wi_345 wi_346)))) (mj_condw (mj_condw (mj_condw wi_347 (mj_condw wi_348 wi_349)) (mj_condw wi_350 (mj_condw wi_351 wi_352))) (mj_condw (mj_condw wi_353 (mj_condw wi_354 wi_355)) (mj_condw wi_356 (mj_condw wi_357 wi_358))))))))) (mj_condw (mj_condw (mj_condw (mj_condw (mj_condw (mj_condw (mj_condw (mj_condw wi_359 wi_360) (mj_condw wi_361 (mj_condw wi_362 wi_363))) (mj_condw (mj_condw wi_364 (mj_condw wi_365 wi_366)) (mj_condw wi_367 (mj_condw wi_368 wi_369)))) (mj_condw (mj_condw (mj_condw wi_370 wi_371) (mj_condw wi_372 (mj_condw wi_373 wi_374))) (mj_condw (mj_condw wi_375 (mj_condw wi_376 wi_377)) (mj_condw wi_378 (mj_condw wi_379 wi_380))))) (mj_condw (mj_condw (mj_condw (mj_condw wi_381 wi_382) (mj_condw wi_383 (mj_condw wi_384 wi_385))) (mj_condw (mj_condw wi_386 (mj_condw wi_387 wi_388)) (mj_condw wi_389 (mj_condw wi_390 wi_391)))) (mj_condw (mj_condw (mj_condw wi_392 (mj_condw wi_393 wi_394)) (mj_condw wi_395 (mj_condw wi_396 wi_397))) (mj_condw (mj_condw wi_398 (mj_condw wi_399 wi_400)) (mj_condw wi_401 (mj_condw wi_402 wi_403)))))) (mj_condw (mj_condw (mj_condw (mj_condw (mj_condw wi_404 wi_405) (mj_condw wi_406 (mj_condw wi_407 wi_408))) (mj_condw (mj_condw wi_409 (mj_condw wi_410 wi_411)) (mj_condw wi_412 (mj_condw wi_413 wi_414)))) (mj_condw (mj_condw (mj_condw wi_415 wi_416) (mj_condw wi_417 (mj_condw wi_418 wi_419))) (mj_condw (mj_condw wi_420 (mj_condw wi_421 wi_422)) (mj_condw wi_423 (mj_condw wi_424 wi_425))))) (mj_condw (mj_condw (mj_condw (mj_condw wi_426 wi_427) (mj_condw wi_428 (mj_condw wi_429 wi_430))) (mj_condw (mj_condw wi_431 (mj_condw wi_432 wi_433)) (mj_condw wi_434 (mj_condw wi_435 wi_436)))) (mj_condw (mj_condw (mj_condw wi_437 (mj_condw wi_438 wi_439)) (mj_condw wi_440 (mj_condw wi_441 wi_442))) (mj_condw (mj_condw wi_443 (mj_condw wi_444 wi_445)) (mj_condw wi_446 (mj_condw wi_447 wi_448))))))) (mj_condw (mj_condw (mj_condw (mj_condw (mj_condw (mj_condw wi_449 wi_450) (mj_condw wi_451 (mj_condw wi_452 wi_453))) (mj_condw (mj_condw wi_454 (mj_condw wi_455 wi_456)) (mj_condw wi_457 (mj_condw wi_458 wi_459)))) (mj_condw (mj_condw (mj_condw wi_460 wi_461) (mj_condw wi_462 (mj_condw wi_463 wi_464))) (mj_condw (mj_condw wi_465 (mj_condw wi_466 wi_467)) (mj_condw wi_468 (mj_condw wi_469 wi_470))))) (mj_condw (mj_condw (mj_condw (mj_condw wi_471 wi_472) (mj_condw wi_473 (mj_condw wi_474 wi_475))) (mj_condw (mj_condw wi_476 (mj_condw wi_477 wi_478)) (mj_condw wi_479 (mj_condw wi_480 wi_481)))) (mj_condw (mj_condw (mj_condw wi_482 (mj_condw wi_483 wi_484)) (mj_condw wi_485 (mj_condw wi_486 wi_487))) (mj_condw (mj_condw wi_488 (mj_condw wi_489 wi_490)) (mj_condw wi_491 (mj_condw wi_492 wi_493)))))) (mj_condw (mj_condw (mj_condw (mj_condw (mj_condw wi_494 wi_495) (mj_condw wi_496 (mj_condw wi_497 wi_498))) (mj_condw (mj_condw wi_499 (mj_condw wi_500 wi_501)) (mj_condw wi_502 (mj_condw wi_503 wi_504)))) (mj_condw (mj_condw (mj_condw wi_505 wi_506) (mj_condw wi_507 (mj_condw wi_508 wi_509))) (mj_condw (mj_condw wi_510 (mj_condw wi_511 wi_512)) (mj_condw wi_513 (mj_condw wi_514 wi_515))))) (mj_condw (mj_condw (mj_condw (mj_condw wi_516 wi_517) (mj_condw wi_518 (mj_condw wi_519 wi_520))) (mj_condw (mj_condw wi_521 (mj_condw wi_522 wi_523)) (mj_condw wi_524 (mj_condw wi_525 wi_526)))) (mj_condw (mj_condw (mj_condw wi_527 (mj_condw wi_528 wi_529)) (mj_condw wi_530 (mj_condw wi_531 wi_532))) (mj_condw (mj_condw wi_533 (mj_condw wi_534 wi_535)) (mj_condw wi_536 (mj_condw wi_537 wi_538)))))))) (mj_condw (mj_condw (mj_condw (mj_condw (mj_condw (mj_condw (mj_condw wi_539 wi_540) (mj_condw wi_541 (mj_condw wi_542 wi_543))) (mj_condw (mj_condw wi_544 (mj_condw wi_545 wi_546)) (mj_condw wi_547 (mj_condw wi_548 wi_549)))) (mj_condw (mj_condw (mj_condw wi_550 wi_551) (mj_condw wi_552 (mj_condw wi_553 wi_554))) (mj_condw (mj_condw wi_555 (mj_condw wi_556 wi_557)) (mj_condw wi_558 (mj_condw wi_559 wi_560))))) (mj_condw (mj_condw (mj_condw (mj_condw wi_561 wi_562) (mj_condw wi_563 (mj_condw wi_564 wi_565))) (mj_condw (mj_condw wi_566 (mj_condw wi_567 wi_568)) (mj_condw wi_569 (mj_condw wi_570 wi_571)))) (mj_condw (mj_condw (mj_condw wi_572 (mj_condw wi_573 wi_574)) (mj_condw wi_575 (mj_condw wi_576 wi_577))) (mj_condw (mj_condw wi_578 (mj_condw wi_579 wi_580)) (mj_condw wi_581 (mj_condw wi_582 wi_583)))))) (mj_condw (mj_condw (mj_condw (mj_condw (mj_condw wi_584 wi_585) (mj_condw wi_586 (mj_condw wi_587 wi_588))) (mj_condw (mj_condw wi_589 (mj_condw wi_590 wi_591)) (mj_condw wi_592 (mj_condw wi_593 wi_594)))) (mj_condw (mj_condw (mj_condw wi_595 wi_596) (mj_condw wi_597 (mj_condw wi_598 wi_599))) (mj_condw (mj_condw wi_600 (mj_condw wi_601 wi_602)) (mj_condw wi_603 (mj_condw wi_604 wi_605))))) (mj_condw (mj_condw (mj_condw (mj_condw wi_606 wi_607) (mj_condw wi_608 (mj_condw wi_609 wi_610))) (mj_condw (mj_condw wi_611 (mj_condw wi_612 wi_613)) (mj_condw wi_614 (mj_condw wi_615 wi_616)))) (mj_condw (mj_condw (mj_condw wi_617 (mj_condw wi_618 wi_619)) (mj_condw wi_620 (mj_condw wi_621 wi_622))) (mj_condw (mj_condw wi_623 (mj_condw wi_624 wi_625)) (mj_condw wi_626 (mj_condw wi_627 wi_628))))))) (mj_condw (mj_condw (mj_condw (mj_condw (mj_condw (mj_condw wi_629 wi_630) (mj_condw wi_631 (mj_condw wi_632 wi_633))) (mj_condw (mj_condw wi_634 (mj_condw wi_635 wi_636)) (mj_condw wi_637 (mj_condw wi_638 wi_639)))) (mj_condw (mj_condw (mj_condw wi_640 wi_641) (mj_condw wi_642 (mj_condw wi_643 wi_644))) (mj_condw (mj_condw wi_645 (mj_condw wi_646 wi_647)) (mj_condw wi_648 (mj_condw wi_649 wi_650))))) (mj_condw (mj_condw (mj_condw (mj_condw wi_651 wi_652) (mj_condw wi_653 (mj_condw wi_654 wi_655))) (mj_condw (mj_condw wi_656 (mj_condw wi_657 wi_658)) (mj_condw wi_659 (mj_condw wi_660 wi_661)))) (mj_condw (mj_condw (mj_condw wi_662 (mj_condw wi_663 wi_664)) (mj_condw wi_665 (mj_condw wi_666 wi_667))) (mj_condw (mj_condw wi_668 (mj_condw wi_669 wi_670)) (mj_condw wi_671 (mj_condw wi_672 wi_673)))))) (mj_condw (mj_condw (mj_condw (mj_condw (mj_condw wi_674 wi_675) (mj_condw wi_676 (mj_condw wi_677 wi_678))) (mj_condw (mj_condw wi_679 (mj_condw wi_680 wi_681)) (mj_condw wi_682 (mj_condw wi_683 wi_684)))) (mj_condw (mj_condw (mj_condw wi_685 wi_686) (mj_condw wi_687 (mj_condw wi_688 wi_689))) (mj_condw (mj_condw wi_690 (mj_condw wi_691 wi_692)) (mj_condw wi_693 (mj_condw wi_694 wi_695))))) (mj_condw (mj_condw (mj_condw (mj_condw wi_696 wi_697) (mj_condw wi_698 (mj_condw wi_699 wi_700))) (mj_condw (mj_condw wi_701 (mj_condw wi_702 wi_703)) (mj_condw wi_704 (mj_condw wi_705 wi_706)))) (mj_condw (mj_condw (mj_condw wi_707 (mj_condw wi_708 wi_709)) (mj_condw wi_710 (mj_condw wi_711 wi_712))) (mj_condw (mj_condw wi_713 (mj_condw wi_714 wi_715)) (mj_condw wi_716 (mj_condw wi_717 wi_718)))))))))) (mj_condw (mj_condw (mj_condw (mj_condw (mj_condw (mj_condw (mj_condw (mj_condw (mj_condw wi_719 wi_720) (mj_condw wi_721 (mj_condw wi_722 wi_723))) (mj_condw (mj_condw wi_724 (mj_condw wi_725 wi_726)) (mj_condw wi_727 (mj_condw wi_728 wi_729)))) (mj_condw (mj_condw (mj_condw wi_730 wi_731) (mj_condw wi_732 (mj_condw wi_733 wi_734))) (mj_condw (mj_condw wi_735 (mj_condw wi_736 wi_737)) (mj_condw wi_738 (mj_condw wi_739 wi_740))))) (mj_condw (mj_condw (mj_condw (mj_condw wi_741 wi_742) (mj_condw wi_743 (mj_condw wi_744 wi_745))) (mj_condw (mj_condw wi_746 (mj_condw wi_747 wi_748)) (mj_condw wi_749 (mj_condw wi_750 wi_751)))) (mj_condw (mj_condw (mj_condw wi_752 (mj_condw wi_753 wi_754)) (mj_condw wi_755 (mj_condw wi_756 wi_757))) (mj_condw (mj_condw wi_758 (mj_condw wi_759 wi_760)) (mj_condw wi_761 (mj_condw wi_762 wi_763)))))) (mj_condw (mj_condw (mj_condw (mj_condw (mj_condw wi_764 wi_765) (mj_condw wi_766 (mj_condw wi_767 wi_768))) (mj_condw (mj_condw wi_769 (mj_condw wi_770 wi_771)) (mj_condw wi_772 (mj_condw wi_773 wi_774)))) (mj_condw (mj_condw (mj_condw wi_775 wi_776) (mj_condw wi_777 (mj_condw wi_778 wi_779))) (mj_condw (mj_condw wi_780 (mj_condw wi_781 wi_782)) (mj_condw wi_783 (mj_condw wi_784 wi_785))))) (mj_condw (mj_condw (mj_condw (mj_condw wi_786 wi_787) (mj_condw wi_788 (mj_condw wi_789 wi_790))) (mj_condw (mj_condw wi_791 (mj_condw wi_792 wi_793)) (mj_condw wi_794 (mj_condw wi_795 wi_796)))) (mj_condw (mj_condw (mj_condw wi_797 (mj_condw wi_798 wi_799)) (mj_condw wi_800 (mj_condw wi_801 wi_802))) (mj_condw (mj_condw wi_803 (mj_condw wi_804 wi_805)) (mj_condw wi_806 (mj_condw wi_807 wi_808))))))) (mj_condw (mj_condw (mj_condw (mj_condw (mj_condw (mj_condw wi_809 wi_810) (mj_condw wi_811 (mj_condw wi_812 wi_813))) (mj_condw (mj_condw wi_814 (mj_condw wi_815 wi_816)) (mj_condw wi_817 (mj_condw wi_818 wi_819)))) (mj_condw (mj_condw (mj_condw wi_820 wi_821) (mj_condw wi_822 (mj_condw wi_823 wi_824))) (mj_condw (mj_condw wi_825 (mj_condw wi_826 wi_827)) (mj_condw wi_828 (mj_condw wi_829 wi_830))))) (mj_condw (mj_condw (mj_condw (mj_condw wi_831 wi_832) (mj_condw wi_833 (mj_condw wi_834 wi_835))) (mj_condw (mj_condw wi_836 (mj_condw wi_837 wi_838)) (mj_condw wi_839 (mj_condw wi_840 wi_841)))) (mj_condw (mj_condw (mj_condw wi_842 (mj_condw wi_843 wi_844)) (mj_condw wi_845 (mj_condw wi_846 wi_847))) (mj_condw (mj_condw wi_848 (mj_condw wi_849 wi_850)) (mj_condw wi_851 (mj_condw wi_852 wi_853)))))) (mj_condw (mj_condw (mj_condw (mj_condw (mj_condw wi_854 wi_855) (mj_condw wi_856 (mj_condw wi_857 wi_858))) (mj_condw (mj_condw wi_859 (mj_condw wi_860 wi_861)) (mj_condw wi_862 (mj_condw wi_863 wi_864)))) (mj_condw (mj_condw (mj_condw wi_865 wi_866) (mj_condw wi_867 (mj_condw wi_868 wi_869))) (mj_condw (mj_condw wi_870 (mj_condw wi_871 wi_872)) (mj_condw wi_873 (mj_condw wi_874 wi_875))))) (mj_condw (mj_condw (mj_condw (mj_condw wi_876 wi_877) (mj_condw wi_878 (mj_condw wi_879 wi_880))) (mj_condw (mj_condw wi_881 (mj_condw wi_882 wi_883)) (mj_condw wi_884 (mj_condw wi_885 wi_886)))) (mj_condw (mj_condw (mj_condw wi_887 (mj_condw wi_888 wi_889)) (mj_condw wi_890 (mj_condw wi_891 wi_892))) (mj_condw (mj_condw wi_893 (mj_condw wi_894 wi_895)) (mj_condw wi_896 (mj_condw wi_897 wi_898)))))))) (mj_condw (mj_condw (mj_condw (mj_condw (mj_condw (mj_condw (mj_condw wi_899 wi_900) (mj_condw wi_901 (mj_condw wi_902 wi_903))) (mj_condw (mj_condw wi_904 (mj_condw wi_905 wi_906)) (mj_condw wi_907 (mj_condw wi_908 wi_909)))) (mj_condw (mj_condw (mj_condw wi_910 wi_911) (mj_condw wi_912 (mj_condw wi_913 wi_914))) (mj_condw (mj_condw wi_915 (mj_condw wi_916 wi_917)) (mj_condw wi_918 (mj_condw wi_919 wi_920))))) (mj_condw (mj_condw (mj_condw (mj_condw wi_921 wi_922) (mj_condw wi_923 (mj_condw wi_924 wi_925))) (mj_condw (mj_condw wi_926 (mj_condw wi_927 wi_928)) (mj_condw wi_929 (mj_condw wi_930 wi_931)))) (mj_condw (mj_condw (mj_condw wi_932 (mj_condw wi_933 wi_934)) (mj_condw wi_935 (mj_condw wi_936 wi_937))) (mj_condw (mj_condw wi_938 (mj_condw wi_939 wi_940)) (mj_condw wi_941 (mj_condw wi_942 wi_943)))))) (mj_condw (mj_condw (mj_condw (mj_condw (mj_condw wi_944 wi_945) (mj_condw wi_946 (mj_condw wi_947 wi_948))) (mj_condw (mj_condw wi_949 (mj_condw wi_950 wi_951)) (mj_condw wi_952 (mj_condw wi_953 wi_954)))) (mj_condw (mj_condw (mj_condw wi_955 wi_956) (mj_condw wi_957 (mj_condw wi_958 wi_959))) (mj_condw (mj_condw wi_960 (mj_condw wi_961 wi_962)) (mj_condw wi_963 (mj_condw wi_964 wi_965))))) (mj_condw (mj_condw (mj_condw (mj_condw wi_966 wi_967) (mj_condw wi_968 (mj_condw wi_969 wi_970))) (mj_condw (mj_condw wi_971 (mj_condw wi_972 wi_973)) (mj_condw wi_974 (mj_condw wi_975 wi_976)))) (mj_condw (mj_condw (mj_condw wi_977 (mj_condw wi_978 wi_979)) (mj_condw wi_980 (mj_condw wi_981 wi_982))) (mj_condw (mj_condw wi_983 (mj_condw wi_984 wi_985)) (mj_condw wi_986 (mj_condw wi_987 wi_988))))))) (mj_condw (mj_condw (mj_condw (mj_condw (mj_condw (mj_condw wi_989 wi_990) (mj_condw wi_991 (mj_condw wi_992 wi_993))) (mj_condw (mj_condw wi_994 (mj_condw wi_995 wi_996)) (mj_condw wi_997 (mj_condw wi_998 wi_999)))) (mj_condw (mj_condw (mj_condw wi_1000 wi_1001) (mj_condw wi_1002 (mj_condw wi_1003 wi_1004))) (mj_condw (mj_condw wi_1005 (mj_condw wi_1006 wi_1007)) (mj_condw wi_1008 (mj_condw wi_1009 wi_1010))))) (mj_condw (mj_condw (mj_condw (mj_condw wi_1011 wi_1012) (mj_condw wi_1013 (mj_condw wi_1014 wi_1015))) (mj_condw (mj_condw wi_1016 (mj_condw wi_1017 wi_1018)) (mj_condw wi_1019 (mj_condw wi_1020 wi_1021)))) (mj_condw (mj_condw (mj_condw wi_1022 (mj_condw wi_1023 wi_1024)) (mj_condw wi_1025 (mj_condw wi_1026 wi_1027))) (mj_condw (mj_condw wi_1028 (mj_condw wi_1029 wi_1030)) (mj_condw wi_1031 (mj_condw wi_1032 wi_1033)))))) (mj_condw (mj_condw (mj_condw (mj_condw (mj_condw wi_1034 wi_1035) (mj_condw wi_1036 (mj_condw wi_1037 wi_1038))) (mj_condw (mj_condw wi_1039 (mj_condw wi_1040 wi_1041)) (mj_condw wi_1042 (mj_condw wi_1043 wi_1044)))) (mj_condw (mj_condw (mj_condw wi_1045 wi_1046) (mj_condw wi_1047 (mj_condw wi_1048 wi_1049))) (mj_condw (mj_condw wi_1050 (mj_condw wi_1051 wi_1052)) (mj_condw wi_1053 (mj_condw wi_1054 wi_1055))))) (mj_condw (mj_condw (mj_condw (mj_condw wi_1056 wi_1057) (mj_condw wi_1058 (mj_condw wi_1059 wi_1060))) (mj_condw (mj_condw wi_1061 (mj_condw wi_1062 wi_1063)) (mj_condw wi_1064 (mj_condw wi_1065 wi_1066)))) (mj_condw (mj_condw (mj_condw wi_1067 (mj_condw wi_1068 wi_1069)) (mj_condw wi_1070 (mj_condw wi_1071 wi_1072))) (mj_condw (mj_condw wi_1073 (mj_condw wi_1074 wi_1075)) (mj_condw wi_1076 (mj_condw wi_1077 wi_1078))))))))) (mj_condw (mj_condw (mj_condw (mj_condw (mj_condw (mj_condw (mj_condw (mj_condw wi_1079 wi_1080) (mj_condw wi_1081 (mj_condw wi_1082 wi_1083))) (mj_condw (mj_condw wi_1084 (mj_condw wi_1085 wi_1086)) (mj_condw wi_1087 (mj_condw wi_1088 wi_1089)))) (mj_condw (mj_condw (mj_condw wi_1090 wi_1091) (mj_condw wi_1092 (mj_condw wi_1093 wi_1094))) (mj_condw (mj_condw wi_1095 (mj_condw wi_1096 wi_1097)) (mj_condw wi_1098 (mj_condw wi_1099 wi_1100))))) (mj_condw (mj_condw (mj_condw (mj_condw wi_1101 wi_1102) (mj_condw wi_1103 (mj_condw wi_1104 wi_1105))) (mj_condw (mj_condw wi_1106 (mj_condw wi_1107 wi_1108)) (mj_condw wi_1109 (mj_condw wi_1110 wi_1111)))) (mj_condw (mj_condw (mj_condw wi_1112 (mj_condw wi_1113 wi_1114)) (mj_condw wi_1115 (mj_condw wi_1116 wi_1117))) (mj_condw (mj_condw wi_1118 (mj_condw wi_1119 wi_1120)) (mj_condw wi_1121 (mj_condw wi_1122 wi_1123)))))) (mj_condw (mj_condw (mj_condw (mj_condw (mj_condw wi_1124 wi_1125) (mj_condw wi_1126 (mj_condw wi_1127 wi_1128))) (mj_condw (mj_condw wi_1129 (mj_condw wi_1130 wi_1131)) (mj_condw wi_1132 (mj_condw wi_1133 wi_1134)))) (mj_condw (mj_condw (mj_condw wi_1135 wi_1136) (mj_condw wi_1137 (mj_condw wi_1138 wi_1139))) (mj_condw (mj_condw wi_1140 (mj_condw wi_1141 wi_1142)) (mj_condw wi_1143 (mj_condw wi_1144 wi_1145))))) (mj_condw (mj_condw (mj_condw (mj_condw wi_1146 wi_1147) (mj_condw wi_1148 (mj_condw wi_1149 wi_1150))) (mj_condw (mj_condw wi_1151 (mj_condw wi_1152 wi_1153)) (mj_condw wi_1154 (mj_condw wi_1155 wi_1156)))) (mj_condw (mj_condw (mj_condw wi_1157 (mj_condw wi_1158 wi_1159)) (mj_condw wi_1160 (mj_condw wi_1161 wi_1162))) (mj_condw (mj_condw wi_1163 (mj_condw wi_1164 wi_1165)) (mj_condw wi_1166 (mj_condw wi_1167 wi_1168))))))) (mj_condw (mj_condw (mj_condw (mj_condw (mj_condw (mj_condw wi_1169 wi_1170) (mj_condw wi_1171 (mj_condw wi_1172 wi_1173))) (mj_condw (mj_condw wi_1174 (mj_condw wi_1175 wi_1176)) (mj_condw wi_1177 (mj_condw wi_1178 wi_1179)))) (mj_condw (mj_condw (mj_condw wi_1180 wi_1181) (mj_condw wi_1182 (mj_condw wi_1183 wi_1184))) (mj_condw (mj_condw wi_1185 (mj_condw wi_1186 wi_1187)) (mj_condw wi_1188 (mj_condw wi_1189 wi_1190))))) (mj_condw (mj_condw (mj_condw (mj_condw wi_1191 wi_1192) (mj_condw wi_1193 (mj_condw wi_1194 wi_1195))) (mj_condw (mj_condw wi_1196 (mj_condw wi_1197 wi_1198)) (mj_condw wi_1199 (mj_condw wi_1200 wi_1201)))) (mj_condw (mj_condw (mj_condw wi_1202 (mj_condw wi_1203 wi_1204)) (mj_condw wi_1205 (mj_condw wi_1206 wi_1207))) (mj_condw (mj_condw wi_1208 (mj_condw wi_1209 wi_1210)) (mj_condw wi_1211 (mj_condw wi_1212 wi_1213)))))) (mj_condw (mj_condw (mj_condw (mj_condw (mj_condw wi_1214 wi_1215) (mj_condw wi_1216 (mj_condw wi_1217 wi_1218))) (mj_condw (mj_condw wi_1219 (mj_condw wi_1220 wi_1221)) (mj_condw wi_1222 (mj_condw wi_1223 wi_1224)))) (mj_condw (mj_condw (mj_condw wi_1225 wi_1226) (mj_condw wi_1227 (mj_condw wi_1228 wi_1229))) (mj_condw (mj_condw wi_1230 (mj_condw wi_1231 wi_1232)) (mj_condw wi_1233 (mj_condw wi_1234 wi_1235))))) (mj_condw (mj_condw (mj_condw (mj_condw wi_1236 wi_1237) (mj_condw wi_1238 (mj_condw wi_1239 wi_1240))) (mj_condw (mj_condw wi_1241 (mj_condw wi_1242 wi_1243)) (mj_condw wi_1244 (mj_condw wi_1245 wi_1246)))) (mj_condw (mj_condw (mj_condw wi_1247 (mj_condw wi_1248 wi_1249)) (mj_condw wi_1250 (mj_condw wi_1251 wi_1252))) (mj_condw (mj_condw wi_1253 (mj_condw wi_1254 wi_1255)) (mj_condw wi_1256 (mj_condw wi_1257 wi_1258)))))))) (mj_condw (mj_condw (mj_condw (mj_condw (mj_condw (mj_condw (mj_condw wi_1259 wi_1260) (mj_condw wi_1261 (mj_condw wi_1262 wi_1263))) (mj_condw (mj_condw wi_1264 (mj_condw wi_1265 wi_1266)) (mj_condw wi_1267 (mj_condw wi_1268 wi_1269)))) (mj_condw (mj_condw (mj_condw wi_1270 wi_1271) (mj_condw wi_1272 (mj_condw wi_1273 wi_1274))) (mj_condw (mj_condw wi_1275 (mj_condw wi_1276 wi_1277)) (mj_condw wi_1278 (mj_condw wi_1279 wi_1280))))) (mj_condw (mj_condw (mj_condw (mj_condw wi_1281 wi_1282) (mj_condw wi_1283 (mj_condw wi_1284 wi_1285))) (mj_condw (mj_condw wi_1286 (mj_condw wi_1287 wi_1288)) (mj_condw wi_1289 (mj_condw wi_1290 wi_1291)))) (mj_condw (mj_condw (mj_condw wi_1292 (mj_condw wi_1293 wi_1294)) (mj_condw wi_1295 (mj_condw wi_1296 wi_1297))) (mj_condw (mj_condw wi_1298 (mj_condw wi_1299 wi_1300)) (mj_condw wi_1301 (mj_condw wi_1302 wi_1303)))))) (mj_condw (mj_condw (mj_condw (mj_condw (mj_condw wi_1304 wi_1305) (mj_condw wi_1306 (mj_condw wi_1307 wi_1308))) (mj_condw (mj_condw wi_1309 (mj_condw wi_1310 wi_1311)) (mj_condw wi_1312 (mj_condw wi_1313 wi_1314)))) (mj_condw (mj_condw (mj_condw wi_1315 wi_1316) (mj_condw wi_1317 (mj_condw wi_1318 wi_1319))) (mj_condw (mj_condw wi_1320 (mj_condw wi_1321 wi_1322)) (mj_condw wi_1323 (mj_condw wi_1324 wi_1325))))) (mj_condw (mj_condw (mj_condw (mj_condw wi_1326 wi_1327) (mj_condw wi_1328 (mj_condw wi_1329 wi_1330))) (mj_condw (mj_condw wi_1331 (mj_condw wi_1332 wi_1333)) (mj_condw wi_1334 (mj_condw wi_1335 wi_1336)))) (mj_condw (mj_condw (mj_condw wi_1337 (mj_condw wi_1338 wi_1339)) (mj_condw wi_1340 (mj_condw wi_1341 wi_1342))) (mj_condw (mj_condw wi_1343 (mj_condw wi_1344 wi_1345)) (mj_condw wi_1346 (mj_condw wi_1347 wi_1348))))))) (mj_condw (mj_condw (mj_condw (mj_condw (mj_condw (mj_condw wi_1349 wi_1350) (mj_condw wi_1351 (mj_condw wi_1352 wi_1353))) (mj_condw (mj_condw wi_1354 (mj_condw wi_1355 wi_1356)) (mj_condw wi_1357 (mj_condw wi_1358 wi_1359)))) (mj_condw (mj_condw (mj_condw wi_1360 wi_1361) (mj_condw wi_1362 (mj_condw wi_1363 wi_1364))) (mj_condw (mj_condw wi_1365 (mj_condw wi_1366 wi_1367)) (mj_condw wi_1368 (mj_condw wi_1369 wi_1370))))) (mj_condw (mj_condw (mj_condw (mj_condw wi_1371 wi_1372) (mj_condw wi_1373 (mj_condw wi_1374 wi_1375))) (mj_condw (mj_condw wi_1376 (mj_condw wi_1377 wi_1378)) (mj_condw wi_1379 (mj_condw wi_1380 wi_1381)))) (mj_condw (mj_condw (mj_condw wi_1382 (mj_condw wi_1383 wi_1384)) (mj_condw wi_1385 (mj_condw wi_1386 wi_1387))) (mj_condw (mj_condw wi_1388 (mj_condw wi_1389 wi_1390)) (mj_condw wi_1391 (mj_condw wi_1392 wi_1393)))))) (mj_condw (mj_condw (mj_condw (mj_condw (mj_condw wi_1394 wi_1395) (mj_condw wi_1396 (mj_condw wi_1397 wi_1398))) (mj_condw (mj_condw wi_1399 (mj_condw wi_1400 wi_1401)) (mj_condw wi_1402 (mj_condw wi_1403 wi_1404)))) (mj_condw (mj_condw (mj_condw wi_1405 wi_1406) (mj_condw wi_1407 (mj_condw wi_1408 wi_1409))) (mj_condw (mj_condw wi_1410 (mj_condw wi_1411 wi_1412)) (mj_condw wi_1413 (mj_condw wi_1414 wi_1415))))) (mj_condw (mj_condw (mj_condw (mj_condw wi_1416 wi_1417) (mj_condw wi_1418 (mj_condw wi_1419 wi_1420))) (mj_condw (mj_condw wi_1421 (mj_condw wi_1422 wi_1423)) (mj_condw wi_1424 (mj_condw wi_1425 wi_1426)))) (mj_condw (mj_condw (mj_condw wi_1427 (mj_condw wi_1428 wi_1429)) (mj_condw wi_1430 (mj_condw wi_1431 wi_1432))) (mj_condw (mj_condw wi_1433 (mj_condw wi_1434 wi_1435)) (mj_condw wi_1436 (mj_condw wi_1437 wi_1438)))))))))))
