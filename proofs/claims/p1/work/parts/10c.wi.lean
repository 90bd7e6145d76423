/-! ===== the words by numbers, laid by a program ===== -/
theorem mj_condw {P : Cond → Prop} {b : Bool} {x z : Cond} (h1 : P x) (h2 : P z) : P (cond b x z) := by cases b <;> assumption
theorem mj_t1 {i : Nat} {w : Cond} (h : tables_1_1[i]? = some w) (hg : goodWord w = true) : w ∈ mj_tb := List.mem_filter.mpr ⟨List.mem_append_right _ (List.mem_append_left _ (List.mem_of_getElem? h)), hg⟩
theorem mj_t2 {i : Nat} {w : Cond} (h : tables_1_2[i]? = some w) (hg : goodWord w = true) : w ∈ mj_tb := List.mem_filter.mpr ⟨List.mem_append_right _ (List.mem_append_right _ (List.mem_append_left _ (List.mem_of_getElem? h))), hg⟩
theorem mj_t3 {i : Nat} {w : Cond} (h : tables_1_3[i]? = some w) (hg : goodWord w = true) : w ∈ mj_tb := List.mem_filter.mpr ⟨List.mem_append_right _ (List.mem_append_right _ (List.mem_append_right _ (List.mem_append_left _ (List.mem_of_getElem? h)))), hg⟩
theorem mj_t4 {i : Nat} {w : Cond} (h : tables_1_4[i]? = some w) (hg : goodWord w = true) : w ∈ mj_tb := List.mem_filter.mpr ⟨List.mem_append_right _ (List.mem_append_right _ (List.mem_append_right _ (List.mem_append_right _ (List.mem_append_left _ (List.mem_of_getElem? h))))), hg⟩
theorem mj_t5 {i : Nat} {w : Cond} (h : tables_1_5[i]? = some w) (hg : goodWord w = true) : w ∈ mj_tb := List.mem_filter.mpr ⟨List.mem_append_right _ (List.mem_append_right _ (List.mem_append_right _ (List.mem_append_right _ (List.mem_append_right _ (List.mem_append_left _ (List.mem_of_getElem? h)))))), hg⟩
theorem mj_t6 {i : Nat} {w : Cond} (h : tables_1_6[i]? = some w) (hg : goodWord w = true) : w ∈ mj_tb := List.mem_filter.mpr ⟨List.mem_append_right _ (List.mem_append_right _ (List.mem_append_right _ (List.mem_append_right _ (List.mem_append_right _ (List.mem_append_right _ (List.mem_append_left _ (List.mem_of_getElem? h))))))), hg⟩
theorem mj_t7 {i : Nat} {w : Cond} (h : tables_1_7[i]? = some w) (hg : goodWord w = true) : w ∈ mj_tb := List.mem_filter.mpr ⟨List.mem_append_right _ (List.mem_append_right _ (List.mem_append_right _ (List.mem_append_right _ (List.mem_append_right _ (List.mem_append_right _ (List.mem_append_right _ (List.mem_append_left _ (List.mem_of_getElem? h)))))))), hg⟩
theorem mj_t8 {i : Nat} {w : Cond} (h : tables_1_8[i]? = some w) (hg : goodWord w = true) : w ∈ mj_tb := List.mem_filter.mpr ⟨List.mem_append_right _ (List.mem_append_right _ (List.mem_append_right _ (List.mem_append_right _ (List.mem_append_right _ (List.mem_append_right _ (List.mem_append_right _ (List.mem_append_right _ (List.mem_append_left _ (List.mem_of_getElem? h))))))))), hg⟩
theorem mj_t9 {i : Nat} {w : Cond} (h : tables_1_9[i]? = some w) (hg : goodWord w = true) : w ∈ mj_tb := List.mem_filter.mpr ⟨List.mem_append_right _ (List.mem_append_right _ (List.mem_append_right _ (List.mem_append_right _ (List.mem_append_right _ (List.mem_append_right _ (List.mem_append_right _ (List.mem_append_right _ (List.mem_append_right _ (List.mem_of_getElem? h))))))))), hg⟩
theorem mj_q1 {i : Nat} {q : MethodName × Nat} {w : Cond} (h : lw_privs_1[i]? = some q) (e : Cond.selects q.1.cls q.1 q.1 = w) (hg : goodWord w = true) : w ∈ mj_tb := List.mem_filter.mpr ⟨List.mem_append_left _ (List.mem_map.mpr ⟨q, List.mem_append_left _ (List.mem_of_getElem? h), e⟩), hg⟩
theorem mj_q2 {i : Nat} {q : MethodName × Nat} {w : Cond} (h : lw_privs_2[i]? = some q) (e : Cond.selects q.1.cls q.1 q.1 = w) (hg : goodWord w = true) : w ∈ mj_tb := List.mem_filter.mpr ⟨List.mem_append_left _ (List.mem_map.mpr ⟨q, List.mem_append_right _ (List.mem_append_left _ (List.mem_of_getElem? h)), e⟩), hg⟩
theorem mj_q3 {i : Nat} {q : MethodName × Nat} {w : Cond} (h : lw_privs_3[i]? = some q) (e : Cond.selects q.1.cls q.1 q.1 = w) (hg : goodWord w = true) : w ∈ mj_tb := List.mem_filter.mpr ⟨List.mem_append_left _ (List.mem_map.mpr ⟨q, List.mem_append_right _ (List.mem_append_right _ (List.mem_append_left _ (List.mem_of_getElem? h))), e⟩), hg⟩
theorem mj_q4 {i : Nat} {q : MethodName × Nat} {w : Cond} (h : lw_privs_4[i]? = some q) (e : Cond.selects q.1.cls q.1 q.1 = w) (hg : goodWord w = true) : w ∈ mj_tb := List.mem_filter.mpr ⟨List.mem_append_left _ (List.mem_map.mpr ⟨q, List.mem_append_right _ (List.mem_append_right _ (List.mem_append_right _ (List.mem_append_left _ (List.mem_of_getElem? h)))), e⟩), hg⟩
theorem mj_q5 {i : Nat} {q : MethodName × Nat} {w : Cond} (h : lw_privs_5[i]? = some q) (e : Cond.selects q.1.cls q.1 q.1 = w) (hg : goodWord w = true) : w ∈ mj_tb := List.mem_filter.mpr ⟨List.mem_append_left _ (List.mem_map.mpr ⟨q, List.mem_append_right _ (List.mem_append_right _ (List.mem_append_right _ (List.mem_append_right _ (List.mem_append_left _ (List.mem_of_getElem? h))))), e⟩), hg⟩
theorem mj_q6 {i : Nat} {q : MethodName × Nat} {w : Cond} (h : lw_privs_6[i]? = some q) (e : Cond.selects q.1.cls q.1 q.1 = w) (hg : goodWord w = true) : w ∈ mj_tb := List.mem_filter.mpr ⟨List.mem_append_left _ (List.mem_map.mpr ⟨q, List.mem_append_right _ (List.mem_append_right _ (List.mem_append_right _ (List.mem_append_right _ (List.mem_append_right _ (List.mem_append_left _ (List.mem_of_getElem? h)))))), e⟩), hg⟩
theorem mj_q7 {i : Nat} {q : MethodName × Nat} {w : Cond} (h : lw_privs_7[i]? = some q) (e : Cond.selects q.1.cls q.1 q.1 = w) (hg : goodWord w = true) : w ∈ mj_tb := List.mem_filter.mpr ⟨List.mem_append_left _ (List.mem_map.mpr ⟨q, List.mem_append_right _ (List.mem_append_right _ (List.mem_append_right _ (List.mem_append_right _ (List.mem_append_right _ (List.mem_append_right _ (List.mem_of_getElem? h)))))), e⟩), hg⟩
abbrev ww_0 : Cond := .methodLink RX0 3 objectInit
theorem wi_0 : ww_0 ∈ mj_tb := mj_t2 (i := 95) rfl rfl
abbrev ww_1 : Cond := .arrayClass .int
theorem wi_1 : ww_1 ∈ mj_tb := mj_t1 (i := 169) rfl rfl
abbrev ww_2 : Cond := .fieldLink RX0 9 "RentRiver$Cheapest" "plan" "[I"
theorem wi_2 : ww_2 ∈ mj_tb := mj_t2 (i := 97) rfl rfl
abbrev ww_3 : Cond := .fieldLink RX0 15 "RentRiver$Cheapest" "done" "Z"
theorem wi_3 : ww_3 ∈ mj_tb := mj_t2 (i := 99) rfl rfl
abbrev ww_4 : Cond := .fieldLink RX0 19 "RentRiver$Cheapest" "planned" "I"
theorem wi_4 : ww_4 ∈ mj_tb := mj_t2 (i := 101) rfl rfl
abbrev ww_5 : Cond := .fieldLink RX0 23 "RentRiver$Cheapest" "solved" "I"
theorem wi_5 : ww_5 ∈ mj_tb := mj_t2 (i := 103) rfl rfl
abbrev ww_6 : Cond := .fieldLink RX0 26 "RentRiver$Cheapest" "answer" "I"
theorem wi_6 : ww_6 ∈ mj_tb := mj_t2 (i := 104) rfl rfl
abbrev ww_7 : Cond := .fieldLink RX0 29 "RentRiver$Cheapest" "towns" "I"
theorem wi_7 : ww_7 ∈ mj_tb := mj_t2 (i := 105) rfl rfl
abbrev ww_8 : Cond := .fieldLink RX0 32 "RentRiver$Cheapest" "move" "I"
theorem wi_8 : ww_8 ∈ mj_tb := mj_t2 (i := 106) rfl rfl
abbrev ww_9 : Cond := .fieldLink RX0 35 "RentRiver$Cheapest" "bridges" "[I"
theorem wi_9 : ww_9 ∈ mj_tb := mj_t2 (i := 107) rfl rfl
abbrev ww_10 : Cond := .fieldLink RX0 38 "RentRiver$Cheapest" "lacks" "[I"
theorem wi_10 : ww_10 ∈ mj_tb := mj_t2 (i := 108) rfl rfl
abbrev ww_11 : Cond := .classLink RX0 41 "[[I"
theorem wi_11 : ww_11 ∈ mj_tb := mj_t2 (i := 96) rfl rfl
abbrev ww_12 : Cond := .fieldLink RX0 43 "RentRiver$Cheapest" "gains" "[[I"
theorem wi_12 : ww_12 ∈ mj_tb := mj_t2 (i := 109) rfl rfl
abbrev ww_13 : Cond := .fieldLink RX0 46 "RentRiver$Cheapest" "rest" "[[I"
theorem wi_13 : ww_13 ∈ mj_tb := mj_t2 (i := 110) rfl rfl
abbrev ww_14 : Cond := .fieldLink RX0 49 "RentRiver$Cheapest" "restBest" "[I"
theorem wi_14 : ww_14 ∈ mj_tb := mj_t2 (i := 111) rfl rfl
abbrev ww_15 : Cond := .fieldLink RX0 52 "RentRiver$Cheapest" "tailGains" "[[I"
theorem wi_15 : ww_15 ∈ mj_tb := mj_t2 (i := 112) rfl rfl
abbrev ww_16 : Cond := .fieldLink RX0 55 "RentRiver$Cheapest" "tailCosts" "[I"
theorem wi_16 : ww_16 ∈ mj_tb := mj_t2 (i := 113) rfl rfl
abbrev ww_17 : Cond := .fieldLink RX0 58 "RentRiver$Cheapest" "tailTowns" "[I"
theorem wi_17 : ww_17 ∈ mj_tb := mj_t2 (i := 114) rfl rfl
abbrev ww_18 : Cond := .fieldLink RX0 61 "RentRiver$Cheapest" "tails" "I"
theorem wi_18 : ww_18 ∈ mj_tb := mj_t2 (i := 115) rfl rfl
abbrev ww_19 : Cond := .fieldLink RX0 64 "RentRiver$Cheapest" "path" "[I"
theorem wi_19 : ww_19 ∈ mj_tb := mj_t2 (i := 116) rfl rfl
abbrev ww_20 : Cond := .fieldLink RX0 67 "RentRiver$Cheapest" "best" "[I"
theorem wi_20 : ww_20 ∈ mj_tb := mj_t2 (i := 117) rfl rfl
abbrev ww_21 : Cond := .fieldLink RX0 70 "RentRiver$Cheapest" "bestPaid" "I"
theorem wi_21 : ww_21 ∈ mj_tb := mj_t2 (i := 118) rfl rfl
abbrev ww_22 : Cond := .fieldLink RX1 9 "RentRiver$Contracts" "first" "[I"
theorem wi_22 : ww_22 ∈ mj_tb := mj_t1 (i := 180) rfl rfl
abbrev ww_23 : Cond := .fieldLink RX1 15 "RentRiver$Contracts" "second" "[I"
theorem wi_23 : ww_23 ∈ mj_tb := mj_t1 (i := 183) rfl rfl
abbrev ww_24 : Cond := .fieldLink RX1 18 "RentRiver$Contracts" "cost" "[I"
theorem wi_24 : ww_24 ∈ mj_tb := mj_t1 (i := 186) rfl rfl
abbrev ww_25 : Cond := .fieldLink RX1 21 "RentRiver$Contracts" "rows" "I"
theorem wi_25 : ww_25 ∈ mj_tb := mj_t1 (i := 189) rfl rfl
abbrev ww_26 : Cond := .methodLink RX1 28 arraycopyName
theorem wi_26 : ww_26 ∈ mj_tb := mj_t5 (i := 231) rfl rfl
abbrev ww_27 : Cond := .methodLink RX1 3 objectInit
theorem wi_27 : ww_27 ∈ mj_tb := mj_t1 (i := 175) rfl rfl
abbrev ww_28 : Cond := .methodLink RX1 25 yX1_clear
theorem wi_28 : ww_28 ∈ mj_tb := mj_t1 (i := 176) rfl rfl
abbrev ww_29 : Cond := .methodLink RX1 34 yX7_advance
theorem wi_29 : ww_29 ∈ mj_tb := mj_t4 (i := 0) rfl rfl
abbrev ww_30 : Cond := .fieldLink RX1 39 "RentRiver$Tape" "kind" "I"
theorem wi_30 : ww_30 ∈ mj_tb := mj_t1 (i := 44) rfl rfl
abbrev ww_31 : Cond := .methodLink RX1 50 yX7_finish
theorem wi_31 : ww_31 ∈ mj_tb := mj_t4 (i := 27) rfl rfl
abbrev ww_32 : Cond := .methodLink RX2 3 objectInit
theorem wi_32 : ww_32 ∈ mj_tb := mj_t2 (i := 185) rfl rfl
abbrev ww_33 : Cond := .classLink RX2 11 "[[I"
theorem wi_33 : ww_33 ∈ mj_tb := mj_t2 (i := 186) rfl rfl
abbrev ww_34 : Cond := .fieldLink RX2 13 "RentRiver$Leaks" "found" "[[I"
theorem wi_34 : ww_34 ∈ mj_tb := mj_t2 (i := 189) rfl rfl
abbrev ww_35 : Cond := .fieldLink RX2 16 "RentRiver$Leaks" "kept" "I"
theorem wi_35 : ww_35 ∈ mj_tb := mj_t2 (i := 191) rfl rfl
abbrev ww_36 : Cond := .fieldLink RX2 20 "RentRiver$Leaks" "all" "I"
theorem wi_36 : ww_36 ∈ mj_tb := mj_t2 (i := 193) rfl rfl
abbrev ww_37 : Cond := .arrayClass .boolean
theorem wi_37 : ww_37 ∈ mj_tb := mj_t1 (i := 228) rfl rfl
abbrev ww_38 : Cond := .fieldLink RX2 23 "RentRiver$Leaks" "levelsTold" "[Z"
theorem wi_38 : ww_38 ∈ mj_tb := mj_t2 (i := 194) rfl rfl
abbrev ww_39 : Cond := .fieldLink RX2 27 "RentRiver$Leaks" "levels" "[[I"
theorem wi_39 : ww_39 ∈ mj_tb := mj_t2 (i := 195) rfl rfl
abbrev ww_40 : Cond := .fieldLink RX2 30 "RentRiver$Leaks" "last" "I"
theorem wi_40 : ww_40 ∈ mj_tb := mj_t2 (i := 196) rfl rfl
abbrev ww_41 : Cond := .classLink RX2 33 RX10
theorem wi_41 : ww_41 ∈ mj_tb := mj_t2 (i := 187) rfl rfl
abbrev ww_42 : Cond := .instantiable RX10 15
theorem wi_42 : ww_42 ∈ mj_tb := mj_t1 (i := 230) rfl rfl
abbrev ww_43 : Cond := .initialized RX10
theorem wi_43 : ww_43 ∈ mj_tb := mj_t1 (i := 7) rfl rfl
abbrev ww_44 : Cond := .methodLink RX2 35 yX10_init
theorem wi_44 : ww_44 ∈ mj_tb := mj_t2 (i := 188) rfl rfl
abbrev ww_45 : Cond := .fieldLink RX2 36 "RentRiver$Leaks" "tight" "LRentRiver$Year;"
theorem wi_45 : ww_45 ∈ mj_tb := mj_t2 (i := 197) rfl rfl
abbrev ww_46 : Cond := .fieldLink RX2 40 "RentRiver$Leaks" "leaking" "LRentRiver$Year;"
theorem wi_46 : ww_46 ∈ mj_tb := mj_t2 (i := 198) rfl rfl
abbrev ww_47 : Cond := .methodLink RX10 3 objectInit
theorem wi_47 : ww_47 ∈ mj_tb := mj_t1 (i := 234) rfl rfl
abbrev ww_48 : Cond := .fieldLink RX10 9 "RentRiver$Year" "running" "Z"
theorem wi_48 : ww_48 ∈ mj_tb := mj_t1 (i := 236) rfl rfl
abbrev ww_49 : Cond := .fieldLink RX10 15 "RentRiver$Year" "months" "I"
theorem wi_49 : ww_49 ∈ mj_tb := mj_t1 (i := 238) rfl rfl
abbrev ww_50 : Cond := .fieldLink RX10 19 "RentRiver$Year" "treasury" "I"
theorem wi_50 : ww_50 ∈ mj_tb := mj_t2 (i := 1) rfl rfl
abbrev ww_51 : Cond := .fieldLink RX10 22 "RentRiver$Year" "letTo" "[I"
theorem wi_51 : ww_51 ∈ mj_tb := mj_t2 (i := 3) rfl rfl
abbrev ww_52 : Cond := .fieldLink RX10 26 "RentRiver$Year" "letAlso" "[I"
theorem wi_52 : ww_52 ∈ mj_tb := mj_t2 (i := 5) rfl rfl
abbrev ww_53 : Cond := .fieldLink RX10 29 "RentRiver$Year" "letFor" "[I"
theorem wi_53 : ww_53 ∈ mj_tb := mj_t2 (i := 7) rfl rfl
abbrev ww_54 : Cond := .classLink RX10 32 "[[I"
theorem wi_54 : ww_54 ∈ mj_tb := mj_t1 (i := 235) rfl rfl
abbrev ww_55 : Cond := .fieldLink RX10 34 "RentRiver$Year" "of" "[[I"
theorem wi_55 : ww_55 ∈ mj_tb := mj_t2 (i := 9) rfl rfl
abbrev ww_56 : Cond := .fieldLink RX10 37 "RentRiver$Year" "lies" "I"
theorem wi_56 : ww_56 ∈ mj_tb := mj_t2 (i := 13) rfl rfl
abbrev ww_57 : Cond := .fieldLink RX10 40 "RentRiver$Year" "fish" "I"
theorem wi_57 : ww_57 ∈ mj_tb := mj_t2 (i := 14) rfl rfl
abbrev ww_58 : Cond := .fieldLink RX10 43 "RentRiver$Year" "rained" "I"
theorem wi_58 : ww_58 ∈ mj_tb := mj_t2 (i := 15) rfl rfl
abbrev ww_59 : Cond := .fieldLink RX10 46 "RentRiver$Year" "used" "I"
theorem wi_59 : ww_59 ∈ mj_tb := mj_t2 (i := 16) rfl rfl
abbrev ww_60 : Cond := .fieldLink RX10 49 "RentRiver$Year" "seeped" "I"
theorem wi_60 : ww_60 ∈ mj_tb := mj_t2 (i := 17) rfl rfl
abbrev ww_61 : Cond := .fieldLink RX10 52 "RentRiver$Year" "atSea" "I"
theorem wi_61 : ww_61 ∈ mj_tb := mj_t2 (i := 18) rfl rfl
abbrev ww_62 : Cond := .fieldLink RX10 55 "RentRiver$Year" "lettings" "I"
theorem wi_62 : ww_62 ∈ mj_tb := mj_t2 (i := 19) rfl rfl
abbrev ww_63 : Cond := .fieldLink RX10 58 "RentRiver$Year" "moves" "I"
theorem wi_63 : ww_63 ∈ mj_tb := mj_t2 (i := 20) rfl rfl
abbrev ww_64 : Cond := .fieldLink RX2 43 "RentRiver$Tape" "size" "I"
theorem wi_64 : ww_64 ∈ mj_tb := mj_t1 (i := 37) rfl rfl
abbrev ww_65 : Cond := .fieldLink RX3 9 "RentRiver$Plain" "names" "[J"
theorem wi_65 : ww_65 ∈ mj_tb := mj_t1 (i := 98) rfl rfl
abbrev ww_66 : Cond := .fieldLink RX3 46 "RentRiver$Plain" "toldOf" "[I"
theorem wi_66 : ww_66 ∈ mj_tb := mj_t1 (i := 132) rfl rfl
abbrev ww_67 : Cond := .fieldLink RX3 17 "RentRiver$Plain" "told" "[[I"
theorem wi_67 : ww_67 ∈ mj_tb := mj_t1 (i := 100) rfl rfl
abbrev ww_68 : Cond := .fieldLink RX3 20 "RentRiver$Plain" "bids" "[[I"
theorem wi_68 : ww_68 ∈ mj_tb := mj_t1 (i := 104) rfl rfl
abbrev ww_69 : Cond := .fieldLink RX3 23 "RentRiver$Plain" "water" "[I"
theorem wi_69 : ww_69 ∈ mj_tb := mj_t1 (i := 108) rfl rfl
abbrev ww_70 : Cond := .fieldLink RX3 27 "RentRiver$Plain" "towns" "I"
theorem wi_70 : ww_70 ∈ mj_tb := mj_t1 (i := 111) rfl rfl
abbrev ww_71 : Cond := .fieldLink RX3 31 "RentRiver$Plain" "bidCount" "I"
theorem wi_71 : ww_71 ∈ mj_tb := mj_t1 (i := 117) rfl rfl
abbrev ww_72 : Cond := .fieldLink RX3 34 "RentRiver$Plain" "move" "I"
theorem wi_72 : ww_72 ∈ mj_tb := mj_t1 (i := 119) rfl rfl
abbrev ww_73 : Cond := .fieldLink RX3 37 "RentRiver$Plain" "fish" "I"
theorem wi_73 : ww_73 ∈ mj_tb := mj_t1 (i := 123) rfl rfl
abbrev ww_74 : Cond := .fieldLink RX3 40 "RentRiver$Plain" "patience" "I"
theorem wi_74 : ww_74 ∈ mj_tb := mj_t1 (i := 126) rfl rfl
abbrev ww_75 : Cond := .fieldLink RX3 49 "RentRiver$Plain" "toldWater" "I"
theorem wi_75 : ww_75 ∈ mj_tb := mj_t1 (i := 133) rfl rfl
abbrev ww_76 : Cond := .fieldLink RX3 52 "RentRiver$Plain" "toldMove" "Z"
theorem wi_76 : ww_76 ∈ mj_tb := mj_t1 (i := 134) rfl rfl
abbrev ww_77 : Cond := .fieldLink RX3 56 "RentRiver$Plain" "toldFish" "Z"
theorem wi_77 : ww_77 ∈ mj_tb := mj_t1 (i := 135) rfl rfl
abbrev ww_78 : Cond := .fieldLink RX3 59 "RentRiver$Plain" "toldPatience" "Z"
theorem wi_78 : ww_78 ∈ mj_tb := mj_t1 (i := 136) rfl rfl
abbrev ww_79 : Cond := .methodLink RX3 62 arraycopyName
theorem wi_79 : ww_79 ∈ mj_tb := mj_t5 (i := 114) rfl rfl
abbrev ww_80 : Cond := .fieldLink RX3 43 "RentRiver$Plain" "serial" "I"
theorem wi_80 : ww_80 ∈ mj_tb := mj_t1 (i := 129) rfl rfl
abbrev ww_81 : Cond := .methodLink RX3 3 objectInit
theorem wi_81 : ww_81 ∈ mj_tb := mj_t1 (i := 95) rfl rfl
abbrev ww_82 : Cond := .arrayClass .long
theorem wi_82 : ww_82 ∈ mj_tb := mj_t1 (i := 168) rfl rfl
abbrev ww_83 : Cond := .classLink RX3 15 "[[I"
theorem wi_83 : ww_83 ∈ mj_tb := mj_t1 (i := 96) rfl rfl
abbrev ww_84 : Cond := .methodLink RX3 74 yX7_advance
theorem wi_84 : ww_84 ∈ mj_tb := mj_t3 (i := 53) rfl rfl
abbrev ww_85 : Cond := .fieldLink RX3 79 "RentRiver$Tape" "kind" "I"
theorem wi_85 : ww_85 ∈ mj_tb := mj_t1 (i := 45) rfl rfl
abbrev ww_86 : Cond := .methodLink RX3 90 yX7_finish
theorem wi_86 : ww_86 ∈ mj_tb := mj_t3 (i := 179) rfl rfl
abbrev ww_87 : Cond := .methodLink RX4 3 objectInit
theorem wi_87 : ww_87 ∈ mj_tb := mj_t2 (i := 163) rfl rfl
abbrev ww_88 : Cond := .fieldLink RX4 9 "RentRiver$Rounds" "done" "Z"
theorem wi_88 : ww_88 ∈ mj_tb := mj_t2 (i := 164) rfl rfl
abbrev ww_89 : Cond := .fieldLink RX4 15 "RentRiver$Rounds" "monthOf" "[I"
theorem wi_89 : ww_89 ∈ mj_tb := mj_t2 (i := 166) rfl rfl
abbrev ww_90 : Cond := .fieldLink RX4 19 "RentRiver$Rounds" "prices" "[I"
theorem wi_90 : ww_90 ∈ mj_tb := mj_t2 (i := 168) rfl rfl
abbrev ww_91 : Cond := .fieldLink RX4 22 "RentRiver$Rounds" "owner" "[I"
theorem wi_91 : ww_91 ∈ mj_tb := mj_t2 (i := 170) rfl rfl
abbrev ww_92 : Cond := .fieldLink RX5 28 "RentRiver$Sentence" "size" "I"
theorem wi_92 : ww_92 ∈ mj_tb := mj_t1 (i := 212) rfl rfl
abbrev ww_93 : Cond := .fieldLink RX5 32 "RentRiver$Sentence" "ones" "I"
theorem wi_93 : ww_93 ∈ mj_tb := mj_t1 (i := 213) rfl rfl
abbrev ww_94 : Cond := .fieldLink RX5 13 "RentRiver$Sentence" "steps" "[LRentRiver$Word;"
theorem wi_94 : ww_94 ∈ mj_tb := mj_t1 (i := 208) rfl rfl
abbrev ww_95 : Cond := .fieldLink RX5 17 "RentRiver$Sentence" "signs" "[I"
theorem wi_95 : ww_95 ∈ mj_tb := mj_t1 (i := 209) rfl rfl
abbrev ww_96 : Cond := .fieldLink RX5 21 "RentRiver$Sentence" "numbers" "[I"
theorem wi_96 : ww_96 ∈ mj_tb := mj_t1 (i := 210) rfl rfl
abbrev ww_97 : Cond := .methodLink RX5 5 objectInit
theorem wi_97 : ww_97 ∈ mj_tb := mj_t1 (i := 205) rfl rfl
abbrev ww_98 : Cond := .classLink RX5 11 "RentRiver$Word"
theorem wi_98 : ww_98 ∈ mj_tb := mj_t1 (i := 206) rfl rfl
abbrev ww_99 : Cond := .fieldLink RX5 24 "RentRiver$Sentence" "stack" "[Z"
theorem wi_99 : ww_99 ∈ mj_tb := mj_t1 (i := 211) rfl rfl
abbrev ww_100 : Cond := .methodLink RX5 62 yX5_readOne
theorem wi_100 : ww_100 ∈ mj_tb := mj_t5 (i := 154) rfl rfl
abbrev ww_101 : Cond := .fieldLink RX5 51 "RentRiver$Tape" "word" "LRentRiver$Word;"
theorem wi_101 : ww_101 ∈ mj_tb := mj_t1 (i := 53) rfl rfl
abbrev ww_102 : Cond := .methodLink RX5 35 yX7_advance
theorem wi_102 : ww_102 ∈ mj_tb := mj_t5 (i := 145) rfl rfl
abbrev ww_103 : Cond := .methodLink RX5 48 yX5_readAll
theorem wi_103 : ww_103 ∈ mj_tb := mj_t5 (i := 150) rfl rfl
abbrev ww_104 : Cond := .methodLink RX5 68 yX7_isSign
theorem wi_104 : ww_104 ∈ mj_tb := mj_t5 (i := 158) rfl rfl
abbrev ww_105 : Cond := .methodLink RX5 72 yX5_begins
theorem wi_105 : ww_105 ∈ mj_tb := mj_t5 (i := 159) rfl rfl
abbrev ww_106 : Cond := .methodLink RX5 76 yX7_refuse
theorem wi_106 : ww_106 ∈ mj_tb := mj_t5 (i := 186) rfl rfl
abbrev ww_107 : Cond := .methodLink RX5 40 yX5_readCond
theorem wi_107 : ww_107 ∈ mj_tb := mj_t5 (i := 146) rfl rfl
abbrev ww_108 : Cond := .methodLink RX5 44 yX7_finish
theorem wi_108 : ww_108 ∈ mj_tb := mj_t5 (i := 204) rfl rfl
abbrev ww_109 : Cond := .fieldLink RX6 10 "RentRiver$State" "plain" "LRentRiver$Plain;"
theorem wi_109 : ww_109 ∈ mj_tb := mj_t2 (i := 52) rfl rfl
abbrev ww_110 : Cond := .methodLink RX6 37 yX3_copy
theorem wi_110 : ww_110 ∈ mj_tb := mj_t5 (i := 226) rfl rfl
abbrev ww_111 : Cond := .fieldLink RX6 19 "RentRiver$State" "deals" "LRentRiver$Contracts;"
theorem wi_111 : ww_111 ∈ mj_tb := mj_t2 (i := 54) rfl rfl
abbrev ww_112 : Cond := .methodLink RX6 41 yX1_copy
theorem wi_112 : ww_112 ∈ mj_tb := mj_t5 (i := 227) rfl rfl
abbrev ww_113 : Cond := .fieldLink RX6 26 "RentRiver$State" "sentence" "LRentRiver$Sentence;"
theorem wi_113 : ww_113 ∈ mj_tb := mj_t2 (i := 56) rfl rfl
abbrev ww_114 : Cond := .methodLink RX6 44 yX5_copy
theorem wi_114 : ww_114 ∈ mj_tb := mj_t5 (i := 232) rfl rfl
abbrev ww_115 : Cond := .fieldLink RX6 33 "RentRiver$State" "year" "LRentRiver$Year;"
theorem wi_115 : ww_115 ∈ mj_tb := mj_t2 (i := 58) rfl rfl
abbrev ww_116 : Cond := .methodLink RX6 47 yX10_copy
theorem wi_116 : ww_116 ∈ mj_tb := mj_t5 (i := 236) rfl rfl
abbrev ww_117 : Cond := .methodLink RX6 1 objectInit
theorem wi_117 : ww_117 ∈ mj_tb := mj_t1 (i := 89) rfl rfl
abbrev ww_118 : Cond := .classLink RX6 7 RX3
theorem wi_118 : ww_118 ∈ mj_tb := mj_t1 (i := 90) rfl rfl
abbrev ww_119 : Cond := .instantiable RX3 15
theorem wi_119 : ww_119 ∈ mj_tb := mj_t1 (i := 91) rfl rfl
abbrev ww_120 : Cond := .initialized RX3
theorem wi_120 : ww_120 ∈ mj_tb := mj_t1 (i := 4) rfl rfl
abbrev ww_121 : Cond := .methodLink RX6 9 yX3_init
theorem wi_121 : ww_121 ∈ mj_tb := mj_t1 (i := 92) rfl rfl
abbrev ww_122 : Cond := .classLink RX6 16 RX1
theorem wi_122 : ww_122 ∈ mj_tb := mj_t1 (i := 170) rfl rfl
abbrev ww_123 : Cond := .instantiable RX1 4
theorem wi_123 : ww_123 ∈ mj_tb := mj_t1 (i := 171) rfl rfl
abbrev ww_124 : Cond := .initialized RX1
theorem wi_124 : ww_124 ∈ mj_tb := mj_t1 (i := 5) rfl rfl
abbrev ww_125 : Cond := .methodLink RX6 18 yX1_init
theorem wi_125 : ww_125 ∈ mj_tb := mj_t1 (i := 172) rfl rfl
abbrev ww_126 : Cond := .classLink RX6 23 RX5
theorem wi_126 : ww_126 ∈ mj_tb := mj_t1 (i := 200) rfl rfl
abbrev ww_127 : Cond := .instantiable RX5 6
theorem wi_127 : ww_127 ∈ mj_tb := mj_t1 (i := 201) rfl rfl
abbrev ww_128 : Cond := .initialized RX5
theorem wi_128 : ww_128 ∈ mj_tb := mj_t1 (i := 6) rfl rfl
abbrev ww_129 : Cond := .methodLink RX6 25 yX5_init
theorem wi_129 : ww_129 ∈ mj_tb := mj_t1 (i := 202) rfl rfl
abbrev ww_130 : Cond := .classLink RX6 30 RX10
theorem wi_130 : ww_130 ∈ mj_tb := mj_t1 (i := 229) rfl rfl
abbrev ww_131 : Cond := .methodLink RX6 32 yX10_init
theorem wi_131 : ww_131 ∈ mj_tb := mj_t1 (i := 231) rfl rfl
abbrev ww_132 : Cond := .fieldLink RX7 15 "RentRiver$Tape" "size" "I"
theorem wi_132 : ww_132 ∈ mj_tb := mj_t1 (i := 36) rfl rfl
abbrev ww_133 : Cond := .fieldLink RX7 45 "RentRiver$Tape" "most" "I"
theorem wi_133 : ww_133 ∈ mj_tb := mj_t1 (i := 56) rfl rfl
abbrev ww_134 : Cond := .methodLink RX7 51 Lib.Math.min.name
theorem wi_134 : ww_134 ∈ mj_tb := mj_t3 (i := 57) rfl rfl
abbrev ww_135 : Cond := .fieldLink RX7 48 "RentRiver$Tape" "here" "I"
theorem wi_135 : ww_135 ∈ mj_tb := mj_t1 (i := 57) rfl rfl
abbrev ww_136 : Cond := .fieldLink RX7 41 "RentRiver$Tape" "word" "LRentRiver$Word;"
theorem wi_136 : ww_136 ∈ mj_tb := mj_t1 (i := 52) rfl rfl
abbrev ww_137 : Cond := .fieldLink RX7 37 "RentRiver$Tape" "code" "J"
theorem wi_137 : ww_137 ∈ mj_tb := mj_t1 (i := 50) rfl rfl
abbrev ww_138 : Cond := .fieldLink RX7 31 "RentRiver$Tape" "number" "I"
theorem wi_138 : ww_138 ∈ mj_tb := mj_t1 (i := 47) rfl rfl
abbrev ww_139 : Cond := .fieldLink RX7 34 "RentRiver$Tape" "sign" "I"
theorem wi_139 : ww_139 ∈ mj_tb := mj_t1 (i := 48) rfl rfl
abbrev ww_140 : Cond := .fieldLink RX7 25 "RentRiver$Tape" "kind" "I"
theorem wi_140 : ww_140 ∈ mj_tb := mj_t1 (i := 43) rfl rfl
abbrev ww_141 : Cond := .fieldLink RX7 28 "RentRiver$Tape" "start" "I"
theorem wi_141 : ww_141 ∈ mj_tb := mj_t1 (i := 46) rfl rfl
abbrev ww_142 : Cond := .methodLink RX7 77 yX7_refuse
theorem wi_142 : ww_142 ∈ mj_tb := mj_t3 (i := 97) rfl rfl
abbrev ww_143 : Cond := .methodLink RX7 3 objectInit
theorem wi_143 : ww_143 ∈ mj_tb := mj_t1 (i := 34) rfl rfl
abbrev ww_144 : Cond := .arrayClass .byte
theorem wi_144 : ww_144 ∈ mj_tb := mj_t1 (i := 83) rfl rfl
abbrev ww_145 : Cond := .fieldLink RX7 11 "RentRiver$Tape" "bytes" "[B"
theorem wi_145 : ww_145 ∈ mj_tb := mj_t1 (i := 35) rfl rfl
abbrev ww_146 : Cond := .fieldLink RX7 19 "RentRiver$Tape" "fault" "I"
theorem wi_146 : ww_146 ∈ mj_tb := mj_t1 (i := 39) rfl rfl
abbrev ww_147 : Cond := .fieldLink RX7 22 "RentRiver$Tape" "faultAt" "I"
theorem wi_147 : ww_147 ∈ mj_tb := mj_t1 (i := 41) rfl rfl
abbrev ww_148 : Cond := .fieldLink RX8 21 "RentRiver$Undo" "size" "I"
theorem wi_148 : ww_148 ∈ mj_tb := mj_t2 (i := 79) rfl rfl
abbrev ww_149 : Cond := .fieldLink RX8 11 "RentRiver$Undo" "towns" "[I"
theorem wi_149 : ww_149 ∈ mj_tb := mj_t2 (i := 76) rfl rfl
abbrev ww_150 : Cond := .fieldLink RX8 15 "RentRiver$Undo" "months" "[I"
theorem wi_150 : ww_150 ∈ mj_tb := mj_t2 (i := 77) rfl rfl
abbrev ww_151 : Cond := .fieldLink RX8 18 "RentRiver$Undo" "before" "[I"
theorem wi_151 : ww_151 ∈ mj_tb := mj_t2 (i := 78) rfl rfl
abbrev ww_152 : Cond := .methodLink RX8 3 objectInit
theorem wi_152 : ww_152 ∈ mj_tb := mj_t2 (i := 75) rfl rfl
abbrev ww_153 : Cond := .methodLink RX10 67 arraycopyName
theorem wi_153 : ww_153 ∈ mj_tb := mj_t5 (i := 29) rfl rfl
abbrev ww_154 : Cond := .fieldLink RX11 19 "RentRiver" "now" "LRentRiver$State;"
theorem wi_154 : ww_154 ∈ mj_tb := mj_t2 (i := 219) rfl rfl
abbrev ww_155 : Cond := .fieldLink RX11 94 "RentRiver$State" "plain" "LRentRiver$Plain;"
theorem wi_155 : ww_155 ∈ mj_tb := mj_t2 (i := 53) rfl rfl
abbrev ww_156 : Cond := .fieldLink RX11 160 "RentRiver$Plain" "towns" "I"
theorem wi_156 : ww_156 ∈ mj_tb := mj_t1 (i := 115) rfl rfl
abbrev ww_157 : Cond := .fieldLink RX11 130 "RentRiver$State" "year" "LRentRiver$Year;"
theorem wi_157 : ww_157 ∈ mj_tb := mj_t2 (i := 59) rfl rfl
abbrev ww_158 : Cond := .methodLink RX11 145 yX11_isTown
theorem wi_158 : ww_158 ∈ mj_tb := mj_t3 (i := 200) rfl rfl
abbrev ww_159 : Cond := .methodLink RX11 163 yX11_isMonth
theorem wi_159 : ww_159 ∈ mj_tb := mj_t3 (i := 204) rfl rfl
abbrev ww_160 : Cond := .fieldLink RX11 166 "RentRiver$Plain" "bids" "[[I"
theorem wi_160 : ww_160 ∈ mj_tb := mj_t1 (i := 106) rfl rfl
abbrev ww_161 : Cond := .fieldLink RX11 73 "RentRiver" "textSize" "I"
theorem wi_161 : ww_161 ∈ mj_tb := mj_t2 (i := 229) rfl rfl
abbrev ww_162 : Cond := .fieldLink RX11 69 "RentRiver" "text" "[B"
theorem wi_162 : ww_162 ∈ mj_tb := mj_t2 (i := 228) rfl rfl
abbrev ww_163 : Cond := .fieldLink RX11 44 "RentRiver" "planner" "LRentRiver$Cheapest;"
theorem wi_163 : ww_163 ∈ mj_tb := mj_t2 (i := 224) rfl rfl
abbrev ww_164 : Cond := .fieldLink RX11 10 "RentRiver" "tape" "LRentRiver$Tape;"
theorem wi_164 : ww_164 ∈ mj_tb := mj_t2 (i := 218) rfl rfl
abbrev ww_165 : Cond := .fieldLink RX11 91 "RentRiver$Tape" "size" "I"
theorem wi_165 : ww_165 ∈ mj_tb := mj_t1 (i := 38) rfl rfl
abbrev ww_166 : Cond := .fieldLink RX11 110 "RentRiver$Tape" "fault" "I"
theorem wi_166 : ww_166 ∈ mj_tb := mj_t1 (i := 40) rfl rfl
abbrev ww_167 : Cond := .fieldLink RX11 77 "RentRiver" "latestFault" "I"
theorem wi_167 : ww_167 ∈ mj_tb := mj_t2 (i := 230) rfl rfl
abbrev ww_168 : Cond := .fieldLink RX11 142 "RentRiver$Tape" "faultAt" "I"
theorem wi_168 : ww_168 ∈ mj_tb := mj_t1 (i := 42) rfl rfl
abbrev ww_169 : Cond := .fieldLink RX11 116 "RentRiver$State" "deals" "LRentRiver$Contracts;"
theorem wi_169 : ww_169 ∈ mj_tb := mj_t2 (i := 55) rfl rfl
abbrev ww_170 : Cond := .methodLink RX11 193 yX1_tells
theorem wi_170 : ww_170 ∈ mj_tb := mj_t4 (i := 32) rfl rfl
abbrev ww_171 : Cond := .fieldLink RX11 196 "RentRiver$Contracts" "first" "[I"
theorem wi_171 : ww_171 ∈ mj_tb := mj_t1 (i := 182) rfl rfl
abbrev ww_172 : Cond := .fieldLink RX11 199 "RentRiver$Contracts" "second" "[I"
theorem wi_172 : ww_172 ∈ mj_tb := mj_t1 (i := 185) rfl rfl
abbrev ww_173 : Cond := .fieldLink RX11 202 "RentRiver$Contracts" "cost" "[I"
theorem wi_173 : ww_173 ∈ mj_tb := mj_t1 (i := 188) rfl rfl
abbrev ww_174 : Cond := .fieldLink RX11 23 "RentRiver" "spare" "LRentRiver$State;"
theorem wi_174 : ww_174 ∈ mj_tb := mj_t2 (i := 220) rfl rfl
abbrev ww_175 : Cond := .methodLink RX11 120 yX1_clear
theorem wi_175 : ww_175 ∈ mj_tb := mj_t3 (i := 183) rfl rfl
abbrev ww_176 : Cond := .methodLink RX11 103 yX7_open
theorem wi_176 : ww_176 ∈ mj_tb := mj_t3 (i := 45) rfl rfl
abbrev ww_177 : Cond := .methodLink RX11 187 yX1_readRows
theorem wi_177 : ww_177 ∈ mj_tb := mj_t3 (i := 236) rfl rfl
abbrev ww_178 : Cond := .fieldLink RX11 190 "RentRiver$Contracts" "rows" "I"
theorem wi_178 : ww_178 ∈ mj_tb := mj_t1 (i := 190) rfl rfl
abbrev ww_179 : Cond := .methodLink RX11 138 yX11_closeTape
theorem wi_179 : ww_179 ∈ mj_tb := mj_t3 (i := 188) rfl rfl
abbrev ww_180 : Cond := .fieldLink RX11 169 "RentRiver$Plain" "bidCount" "I"
theorem wi_180 : ww_180 ∈ mj_tb := mj_t1 (i := 118) rfl rfl
abbrev ww_181 : Cond := .fieldLink RX11 340 "RentRiver$Plain" "move" "I"
theorem wi_181 : ww_181 ∈ mj_tb := mj_t1 (i := 122) rfl rfl
abbrev ww_182 : Cond := .fieldLink RX11 343 "RentRiver$Plain" "fish" "I"
theorem wi_182 : ww_182 ∈ mj_tb := mj_t1 (i := 125) rfl rfl
abbrev ww_183 : Cond := .fieldLink RX11 346 "RentRiver$Plain" "patience" "I"
theorem wi_183 : ww_183 ∈ mj_tb := mj_t1 (i := 128) rfl rfl
abbrev ww_184 : Cond := .fieldLink RX11 65 "RentRiver" "trial" "LRentRiver$Year;"
theorem wi_184 : ww_184 ∈ mj_tb := mj_t2 (i := 227) rfl rfl
abbrev ww_185 : Cond := .fieldLink RX11 309 "RentRiver$Year" "treasury" "I"
theorem wi_185 : ww_185 ∈ mj_tb := mj_t2 (i := 2) rfl rfl
abbrev ww_186 : Cond := .fieldLink RX11 133 "RentRiver$Year" "running" "Z"
theorem wi_186 : ww_186 ∈ mj_tb := mj_t1 (i := 237) rfl rfl
abbrev ww_187 : Cond := .fieldLink RX11 209 "RentRiver$Year" "months" "I"
theorem wi_187 : ww_187 ∈ mj_tb := mj_t2 (i := 0) rfl rfl
abbrev ww_188 : Cond := .fieldLink RX11 222 "RentRiver$Year" "letTo" "[I"
theorem wi_188 : ww_188 ∈ mj_tb := mj_t2 (i := 4) rfl rfl
abbrev ww_189 : Cond := .fieldLink RX11 156 "RentRiver$Plain" "told" "[[I"
theorem wi_189 : ww_189 ∈ mj_tb := mj_t1 (i := 103) rfl rfl
abbrev ww_190 : Cond := .methodLink RX11 83 yX7_hasRoom
theorem wi_190 : ww_190 ∈ mj_tb := mj_t3 (i := 25) rfl rfl
abbrev ww_191 : Cond := .methodLink RX11 87 yX7_put
theorem wi_191 : ww_191 ∈ mj_tb := mj_t3 (i := 29) rfl rfl
abbrev ww_192 : Cond := .fieldLink RX11 51 "RentRiver" "auction" "LRentRiver$Rounds;"
theorem wi_192 : ww_192 ∈ mj_tb := mj_t2 (i := 225) rfl rfl
abbrev ww_193 : Cond := .fieldLink RX11 251 "RentRiver$Rounds" "done" "Z"
theorem wi_193 : ww_193 ∈ mj_tb := mj_t2 (i := 165) rfl rfl
abbrev ww_194 : Cond := .fieldLink RX11 252 "RentRiver$Rounds" "monthOf" "[I"
theorem wi_194 : ww_194 ∈ mj_tb := mj_t2 (i := 167) rfl rfl
abbrev ww_195 : Cond := .fieldLink RX11 26 "RentRiver" "images" "[LRentRiver$State;"
theorem wi_195 : ww_195 ∈ mj_tb := mj_t2 (i := 221) rfl rfl
abbrev ww_196 : Cond := .methodLink RX11 337 yX6_copy
theorem wi_196 : ww_196 ∈ mj_tb := mj_t5 (i := 222) rfl rfl
abbrev ww_197 : Cond := .fieldLink RX11 30 "RentRiver" "kept" "[Z"
theorem wi_197 : ww_197 ∈ mj_tb := mj_t2 (i := 222) rfl rfl
abbrev ww_198 : Cond := .methodLink RX11 1 objectInit
theorem wi_198 : ww_198 ∈ mj_tb := mj_t1 (i := 26) rfl rfl
abbrev ww_199 : Cond := .classLink RX11 7 RX7
theorem wi_199 : ww_199 ∈ mj_tb := mj_t1 (i := 29) rfl rfl
abbrev ww_200 : Cond := .instantiable RX7 12
theorem wi_200 : ww_200 ∈ mj_tb := mj_t1 (i := 30) rfl rfl
abbrev ww_201 : Cond := .initialized RX7
theorem wi_201 : ww_201 ∈ mj_tb := mj_t1 (i := 2) rfl rfl
abbrev ww_202 : Cond := .methodLink RX11 9 yX7_init
theorem wi_202 : ww_202 ∈ mj_tb := mj_t1 (i := 31) rfl rfl
abbrev ww_203 : Cond := .classLink RX11 16 RX6
theorem wi_203 : ww_203 ∈ mj_tb := mj_t1 (i := 84) rfl rfl
abbrev ww_204 : Cond := .instantiable RX6 4
theorem wi_204 : ww_204 ∈ mj_tb := mj_t1 (i := 85) rfl rfl
abbrev ww_205 : Cond := .initialized RX6
theorem wi_205 : ww_205 ∈ mj_tb := mj_t1 (i := 3) rfl rfl
abbrev ww_206 : Cond := .methodLink RX11 18 yX6_init
theorem wi_206 : ww_206 ∈ mj_tb := mj_t1 (i := 86) rfl rfl
abbrev ww_207 : Cond := .classLink RX11 34 RX8
theorem wi_207 : ww_207 ∈ mj_tb := mj_t2 (i := 70) rfl rfl
abbrev ww_208 : Cond := .instantiable RX8 4
theorem wi_208 : ww_208 ∈ mj_tb := mj_t2 (i := 71) rfl rfl
abbrev ww_209 : Cond := .initialized RX8
theorem wi_209 : ww_209 ∈ mj_tb := mj_t1 (i := 8) rfl rfl
abbrev ww_210 : Cond := .methodLink RX11 36 yX8_init
theorem wi_210 : ww_210 ∈ mj_tb := mj_t2 (i := 72) rfl rfl
abbrev ww_211 : Cond := .fieldLink RX11 37 "RentRiver" "undone" "LRentRiver$Undo;"
theorem wi_211 : ww_211 ∈ mj_tb := mj_t2 (i := 223) rfl rfl
abbrev ww_212 : Cond := .classLink RX11 41 RX0
theorem wi_212 : ww_212 ∈ mj_tb := mj_t2 (i := 90) rfl rfl
abbrev ww_213 : Cond := .instantiable RX0 19
theorem wi_213 : ww_213 ∈ mj_tb := mj_t2 (i := 91) rfl rfl
abbrev ww_214 : Cond := .initialized RX0
theorem wi_214 : ww_214 ∈ mj_tb := mj_t1 (i := 9) rfl rfl
abbrev ww_215 : Cond := .methodLink RX11 43 yX0_init
theorem wi_215 : ww_215 ∈ mj_tb := mj_t2 (i := 92) rfl rfl
abbrev ww_216 : Cond := .classLink RX11 48 RX4
theorem wi_216 : ww_216 ∈ mj_tb := mj_t2 (i := 158) rfl rfl
abbrev ww_217 : Cond := .instantiable RX4 4
theorem wi_217 : ww_217 ∈ mj_tb := mj_t2 (i := 159) rfl rfl
abbrev ww_218 : Cond := .initialized RX4
theorem wi_218 : ww_218 ∈ mj_tb := mj_t1 (i := 10) rfl rfl
abbrev ww_219 : Cond := .methodLink RX11 50 yX4_init
theorem wi_219 : ww_219 ∈ mj_tb := mj_t2 (i := 160) rfl rfl
abbrev ww_220 : Cond := .classLink RX11 55 RX2
theorem wi_220 : ww_220 ∈ mj_tb := mj_t2 (i := 180) rfl rfl
abbrev ww_221 : Cond := .instantiable RX2 8
theorem wi_221 : ww_221 ∈ mj_tb := mj_t2 (i := 181) rfl rfl
abbrev ww_222 : Cond := .initialized RX2
theorem wi_222 : ww_222 ∈ mj_tb := mj_t1 (i := 11) rfl rfl
abbrev ww_223 : Cond := .methodLink RX11 57 yX2_init
theorem wi_223 : ww_223 ∈ mj_tb := mj_t2 (i := 182) rfl rfl
abbrev ww_224 : Cond := .fieldLink RX11 58 "RentRiver" "search" "LRentRiver$Leaks;"
theorem wi_224 : ww_224 ∈ mj_tb := mj_t2 (i := 226) rfl rfl
abbrev ww_225 : Cond := .classLink RX11 62 RX10
theorem wi_225 : ww_225 ∈ mj_tb := mj_t2 (i := 216) rfl rfl
abbrev ww_226 : Cond := .methodLink RX11 64 yX10_init
theorem wi_226 : ww_226 ∈ mj_tb := mj_t2 (i := 217) rfl rfl
abbrev ww_227 : Cond := .fieldLink RX11 80 "RentRiver" "plains" "I"
theorem wi_227 : ww_227 ∈ mj_tb := mj_t2 (i := 231) rfl rfl
abbrev ww_228 : Cond := .fieldLink RX11 265 "RentRiver$Leaks" "kept" "I"
theorem wi_228 : ww_228 ∈ mj_tb := mj_t2 (i := 192) rfl rfl
abbrev ww_229 : Cond := .fieldLink RX11 267 "RentRiver$Leaks" "found" "[[I"
theorem wi_229 : ww_229 ∈ mj_tb := mj_t2 (i := 190) rfl rfl
abbrev ww_230 : Cond := .methodLink RX11 258 yX2_readLevels
theorem wi_230 : ww_230 ∈ mj_tb := mj_t5 (i := 11) rfl rfl
abbrev ww_231 : Cond := .fieldLink RX11 225 "RentRiver$Year" "letAlso" "[I"
theorem wi_231 : ww_231 ∈ mj_tb := mj_t2 (i := 6) rfl rfl
abbrev ww_232 : Cond := .fieldLink RX11 228 "RentRiver$Year" "letFor" "[I"
theorem wi_232 : ww_232 ∈ mj_tb := mj_t2 (i := 8) rfl rfl
abbrev ww_233 : Cond := .methodLink RX11 98 yX3_clear
theorem wi_233 : ww_233 ∈ mj_tb := mj_t3 (i := 41) rfl rfl
abbrev ww_234 : Cond := .methodLink RX11 106 yX3_readRows
theorem wi_234 : ww_234 ∈ mj_tb := mj_t3 (i := 49) rfl rfl
abbrev ww_235 : Cond := .fieldLink RX11 113 "RentRiver$Plain" "serial" "I"
theorem wi_235 : ww_235 ∈ mj_tb := mj_t1 (i := 131) rfl rfl
abbrev ww_236 : Cond := .fieldLink RX11 123 "RentRiver$State" "sentence" "LRentRiver$Sentence;"
theorem wi_236 : ww_236 ∈ mj_tb := mj_t2 (i := 57) rfl rfl
abbrev ww_237 : Cond := .methodLink RX11 127 yX5_clear
theorem wi_237 : ww_237 ∈ mj_tb := mj_t3 (i := 184) rfl rfl
abbrev ww_238 : Cond := .fieldLink RX11 137 "RentRiver$Undo" "size" "I"
theorem wi_238 : ww_238 ∈ mj_tb := mj_t2 (i := 80) rfl rfl
abbrev ww_239 : Cond := .fieldLink RX11 234 "RentRiver$Cheapest" "done" "Z"
theorem wi_239 : ww_239 ∈ mj_tb := mj_t2 (i := 100) rfl rfl
abbrev ww_240 : Cond := .fieldLink RX11 237 "RentRiver$Cheapest" "plan" "[I"
theorem wi_240 : ww_240 ∈ mj_tb := mj_t2 (i := 98) rfl rfl
abbrev ww_241 : Cond := .fieldLink RX11 255 "RentRiver$Rounds" "prices" "[I"
theorem wi_241 : ww_241 ∈ mj_tb := mj_t2 (i := 169) rfl rfl
abbrev ww_242 : Cond := .fieldLink RX11 330 "RentRiver$Sentence" "ones" "I"
theorem wi_242 : ww_242 ∈ mj_tb := mj_t1 (i := 214) rfl rfl
abbrev ww_243 : Cond := .methodLink RX11 326 yX5_readText
theorem wi_243 : ww_243 ∈ mj_tb := mj_t5 (i := 141) rfl rfl
abbrev ww_244 : Cond := .fieldLink RX11 219 "RentRiver$Year" "of" "[[I"
theorem wi_244 : ww_244 ∈ mj_tb := mj_t2 (i := 12) rfl rfl
abbrev ww_245 : Cond := .fieldLink RX11 240 "RentRiver$Cheapest" "planned" "I"
theorem wi_245 : ww_245 ∈ mj_tb := mj_t2 (i := 102) rfl rfl
abbrev ww_246 : Cond := .methodLink RX11 179 yX8_back
theorem wi_246 : ww_246 ∈ mj_tb := mj_t3 (i := 223) rfl rfl
abbrev ww_247 : Cond := .fieldLink RX11 183 "RentRiver$Plain" "water" "[I"
theorem wi_247 : ww_247 ∈ mj_tb := mj_t1 (i := 110) rfl rfl
abbrev ww_248 : Cond := .methodLink RX11 312 yX3_copy
theorem wi_248 : ww_248 ∈ mj_tb := mj_t5 (i := 110) rfl rfl
abbrev ww_249 : Cond := .fieldLink RX12 180 "RentRiverModel" "fault" "I"
theorem wi_249 : ww_249 ∈ mj_tb := mj_t6 (i := 139) rfl rfl
abbrev ww_250 : Cond := .fieldLink RX12 157 "RentRiverModel" "at" "I"
theorem wi_250 : ww_250 ∈ mj_tb := mj_t6 (i := 136) rfl rfl
abbrev ww_251 : Cond := .fieldLink RX12 183 "RentRiverModel" "faultAt" "I"
theorem wi_251 : ww_251 ∈ mj_tb := mj_t6 (i := 140) rfl rfl
abbrev ww_252 : Cond := .fieldLink RX12 1 "RentRiverModel" "thrown" "I"
theorem wi_252 : ww_252 ∈ mj_tb := mj_t6 (i := 124) rfl rfl
abbrev ww_253 : Cond := .fieldLink RX12 33 "RentRiverModel" "s" "[I"
theorem wi_253 : ww_253 ∈ mj_tb := mj_t6 (i := 130) rfl rfl
abbrev ww_254 : Cond := .methodLink RX12 263 yX12_isTown
theorem wi_254 : ww_254 ∈ mj_tb := mj_t7 (i := 151) rfl rfl
abbrev ww_255 : Cond := .methodLink RX12 273 yX12_isMonth
theorem wi_255 : ww_255 ∈ mj_tb := mj_t7 (i := 167) rfl rfl
abbrev ww_256 : Cond := .fieldLink RX12 391 "RentRiverModel" "textMany" "I"
theorem wi_256 : ww_256 ∈ mj_tb := mj_t6 (i := 175) rfl rfl
abbrev ww_257 : Cond := .methodLink RX12 195 yX12_isIn
theorem wi_257 : ww_257 ∈ mj_tb := mj_t7 (i := 121) rfl rfl
abbrev ww_258 : Cond := .fieldLink RX12 86 "RentRiverModel" "text" "[B"
theorem wi_258 : ww_258 ∈ mj_tb := mj_t6 (i := 174) rfl rfl
abbrev ww_259 : Cond := .fieldLink RX12 62 "RentRiverModel" "costs" "[I"
theorem wi_259 : ww_259 ∈ mj_tb := mj_t6 (i := 160) rfl rfl
abbrev ww_260 : Cond := .fieldLink RX12 65 "RentRiverModel" "havings" "[I"
theorem wi_260 : ww_260 ∈ mj_tb := mj_t6 (i := 161) rfl rfl
abbrev ww_261 : Cond := .fieldLink RX12 59 "RentRiverModel" "tried" "[I"
theorem wi_261 : ww_261 ∈ mj_tb := mj_t6 (i := 159) rfl rfl
abbrev ww_262 : Cond := .fieldLink RX12 68 "RentRiverModel" "plan" "[I"
theorem wi_262 : ww_262 ∈ mj_tb := mj_t6 (i := 162) rfl rfl
abbrev ww_263 : Cond := .fieldLink RX12 349 "RentRiverModel" "hasPlan" "Z"
theorem wi_263 : ww_263 ∈ mj_tb := mj_t6 (i := 163) rfl rfl
abbrev ww_264 : Cond := .fieldLink RX12 260 "RentRiverModel" "plainNumber" "I"
theorem wi_264 : ww_264 ∈ mj_tb := mj_t6 (i := 149) rfl rfl
abbrev ww_265 : Cond := .fieldLink RX12 353 "RentRiverModel" "planNumber" "I"
theorem wi_265 : ww_265 ∈ mj_tb := mj_t6 (i := 164) rfl rfl
abbrev ww_266 : Cond := .methodLink RX12 242 yX12_taken
theorem wi_266 : ww_266 ∈ mj_tb := mj_t7 (i := 75) rfl rfl
abbrev ww_267 : Cond := .fieldLink RX12 40 "RentRiverModel" "read" "[I"
theorem wi_267 : ww_267 ∈ mj_tb := mj_t6 (i := 132) rfl rfl
abbrev ww_268 : Cond := .methodLink RX12 192 yX12_next
theorem wi_268 : ww_268 ∈ mj_tb := mj_t7 (i := 79) rfl rfl
abbrev ww_269 : Cond := .fieldLink RX12 163 "RentRiverModel" "token" "I"
theorem wi_269 : ww_269 ∈ mj_tb := mj_t6 (i := 135) rfl rfl
abbrev ww_270 : Cond := .methodLink RX12 279 yX12_bidMany
theorem wi_270 : ww_270 ∈ mj_tb := mj_t7 (i := 182) rfl rfl
abbrev ww_271 : Cond := .fieldLink RX12 7 "RentRiverModel" "length" "I"
theorem wi_271 : ww_271 ∈ mj_tb := mj_t6 (i := 126) rfl rfl
abbrev ww_272 : Cond := .fieldLink RX12 368 "RentRiverModel" "seed" "I"
theorem wi_272 : ww_272 ∈ mj_tb := mj_t6 (i := 171) rfl rfl
abbrev ww_273 : Cond := .methodLink RX12 10 yX12_four
theorem wi_273 : ww_273 ∈ mj_tb := mj_t6 (i := 86) rfl rfl
abbrev ww_274 : Cond := .fieldLink RX12 14 "RentRiverModel" "tape" "[B"
theorem wi_274 : ww_274 ∈ mj_tb := mj_t6 (i := 125) rfl rfl
abbrev ww_275 : Cond := .fieldLink RX12 356 "RentRiverModel" "hasRounds" "Z"
theorem wi_275 : ww_275 ∈ mj_tb := mj_t6 (i := 168) rfl rfl
abbrev ww_276 : Cond := .fieldLink RX12 359 "RentRiverModel" "roundTowns" "I"
theorem wi_276 : ww_276 ∈ mj_tb := mj_t6 (i := 167) rfl rfl
abbrev ww_277 : Cond := .fieldLink RX12 71 "RentRiverModel" "hasMonth" "[I"
theorem wi_277 : ww_277 ∈ mj_tb := mj_t6 (i := 165) rfl rfl
abbrev ww_278 : Cond := .fieldLink RX12 96 "RentRiverModel" "kept" "[I"
theorem wi_278 : ww_278 ∈ mj_tb := mj_t6 (i := 183) rfl rfl
abbrev ww_279 : Cond := .fieldLink RX12 99 "RentRiverModel" "namesKept" "[J"
theorem wi_279 : ww_279 ∈ mj_tb := mj_t6 (i := 184) rfl rfl
abbrev ww_280 : Cond := .fieldLink RX12 43 "RentRiverModel" "names" "[J"
theorem wi_280 : ww_280 ∈ mj_tb := mj_t6 (i := 133) rfl rfl
abbrev ww_281 : Cond := .fieldLink RX12 102 "RentRiverModel" "isKept" "[Z"
theorem wi_281 : ww_281 ∈ mj_tb := mj_t6 (i := 185) rfl rfl
abbrev ww_282 : Cond := .methodLink RX12 27 objectInit
theorem wi_282 : ww_282 ∈ mj_tb := mj_t6 (i := 99) rfl rfl
abbrev ww_283 : Cond := .fieldLink RX12 37 "RentRiverModel" "h" "[I"
theorem wi_283 : ww_283 ∈ mj_tb := mj_t6 (i := 131) rfl rfl
abbrev ww_284 : Cond := .fieldLink RX12 47 "RentRiverModel" "reserved" "[J"
theorem wi_284 : ww_284 ∈ mj_tb := mj_t6 (i := 134) rfl rfl
abbrev ww_285 : Cond := .fieldLink RX12 50 "RentRiverModel" "had" "[I"
theorem wi_285 : ww_285 ∈ mj_tb := mj_t6 (i := 147) rfl rfl
abbrev ww_286 : Cond := .fieldLink RX12 53 "RentRiverModel" "undone" "[I"
theorem wi_286 : ww_286 ∈ mj_tb := mj_t6 (i := 151) rfl rfl
abbrev ww_287 : Cond := .fieldLink RX12 56 "RentRiverModel" "leakTown" "I"
theorem wi_287 : ww_287 ∈ mj_tb := mj_t6 (i := 156) rfl rfl
abbrev ww_288 : Cond := .fieldLink RX12 74 "RentRiverModel" "prices" "[I"
theorem wi_288 : ww_288 ∈ mj_tb := mj_t6 (i := 166) rfl rfl
abbrev ww_289 : Cond := .fieldLink RX12 77 "RentRiverModel" "before" "[I"
theorem wi_289 : ww_289 ∈ mj_tb := mj_t6 (i := 169) rfl rfl
abbrev ww_290 : Cond := .fieldLink RX12 80 "RentRiverModel" "bidsKept" "[I"
theorem wi_290 : ww_290 ∈ mj_tb := mj_t6 (i := 170) rfl rfl
abbrev ww_291 : Cond := .fieldLink RX12 83 "RentRiverModel" "leaksFound" "[I"
theorem wi_291 : ww_291 ∈ mj_tb := mj_t6 (i := 172) rfl rfl
abbrev ww_292 : Cond := .fieldLink RX12 89 "RentRiverModel" "stack" "[I"
theorem wi_292 : ww_292 ∈ mj_tb := mj_t6 (i := 176) rfl rfl
abbrev ww_293 : Cond := .fieldLink RX12 92 "RentRiverModel" "values" "[Z"
theorem wi_293 : ww_293 ∈ mj_tb := mj_t6 (i := 182) rfl rfl
abbrev ww_294 : Cond := .constantLong RX12 105 (1953462126)
theorem wi_294 : ww_294 ∈ mj_tb := mj_t6 (i := 100) rfl rfl
abbrev ww_295 : Cond := .constantLong RX12 107 (512736126322)
theorem wi_295 : ww_295 ∈ mj_tb := mj_t6 (i := 101) rfl rfl
abbrev ww_296 : Cond := .constantLong RX12 109 (6449508)
theorem wi_296 : ww_296 ∈ mj_tb := mj_t6 (i := 102) rfl rfl
abbrev ww_297 : Cond := .constantLong RX12 111 (1852138852)
theorem wi_297 : ww_297 ∈ mj_tb := mj_t6 (i := 103) rfl rfl
abbrev ww_298 : Cond := .constantLong RX12 113 (1835625580)
theorem wi_298 : ww_298 ∈ mj_tb := mj_t6 (i := 104) rfl rfl
abbrev ww_299 : Cond := .constantLong RX12 115 (108243533981541)
theorem wi_299 : ww_299 ∈ mj_tb := mj_t6 (i := 105) rfl rfl
abbrev ww_300 : Cond := .constantLong RX12 117 (439854918756)
theorem wi_300 : ww_300 ∈ mj_tb := mj_t6 (i := 106) rfl rfl
abbrev ww_301 : Cond := .constantLong RX12 119 (1836021349)
theorem wi_301 : ww_301 ∈ mj_tb := mj_t6 (i := 107) rfl rfl
abbrev ww_302 : Cond := .constantLong RX12 121 (1718186856)
theorem wi_302 : ww_302 ∈ mj_tb := mj_t6 (i := 108) rfl rfl
abbrev ww_303 : Cond := .constantLong RX12 123 (8097881601010983781)
theorem wi_303 : ww_303 ∈ mj_tb := mj_t6 (i := 109) rfl rfl
abbrev ww_304 : Cond := .constantLong RX12 125 (7103860)
theorem wi_304 : ww_304 ∈ mj_tb := mj_t6 (i := 110) rfl rfl
abbrev ww_305 : Cond := .constantLong RX12 127 (7562593)
theorem wi_305 : ww_305 ∈ mj_tb := mj_t6 (i := 111) rfl rfl
abbrev ww_306 : Cond := .constantLong RX12 129 (28530)
theorem wi_306 : ww_306 ∈ mj_tb := mj_t6 (i := 112) rfl rfl
abbrev ww_307 : Cond := .constantLong RX12 131 (6385252)
theorem wi_307 : ww_307 ∈ mj_tb := mj_t6 (i := 113) rfl rfl
abbrev ww_308 : Cond := .constantLong RX12 133 (7237492)
theorem wi_308 : ww_308 ∈ mj_tb := mj_t6 (i := 114) rfl rfl
abbrev ww_309 : Cond := .constantLong RX12 135 (495673373285)
theorem wi_309 : ww_309 ∈ mj_tb := mj_t6 (i := 115) rfl rfl
abbrev ww_310 : Cond := .constantLong RX12 137 (32765899399459961)
theorem wi_310 : ww_310 ∈ mj_tb := mj_t6 (i := 116) rfl rfl
abbrev ww_311 : Cond := .constantLong RX12 139 (1886350948)
theorem wi_311 : ww_311 ∈ mj_tb := mj_t6 (i := 117) rfl rfl
abbrev ww_312 : Cond := .constantLong RX12 141 (483006772069)
theorem wi_312 : ww_312 ∈ mj_tb := mj_t6 (i := 118) rfl rfl
abbrev ww_313 : Cond := .constantLong RX12 143 (1885432164)
theorem wi_313 : ww_313 ∈ mj_tb := mj_t6 (i := 119) rfl rfl
abbrev ww_314 : Cond := .constantLong RX12 145 (6582905)
theorem wi_314 : ww_314 ∈ mj_tb := mj_t6 (i := 120) rfl rfl
abbrev ww_315 : Cond := .constantLong RX12 147 (1818588275)
theorem wi_315 : ww_315 ∈ mj_tb := mj_t6 (i := 121) rfl rfl
abbrev ww_316 : Cond := .constantLong RX12 149 (444300879214)
theorem wi_316 : ww_316 ∈ mj_tb := mj_t6 (i := 122) rfl rfl
abbrev ww_317 : Cond := .constantLong RX12 151 (482854658917)
theorem wi_317 : ww_317 ∈ mj_tb := mj_t6 (i := 123) rfl rfl
abbrev ww_318 : Cond := .fieldLink RX12 173 "RentRiverModel" "number" "I"
theorem wi_318 : ww_318 ∈ mj_tb := mj_t6 (i := 138) rfl rfl
abbrev ww_319 : Cond := .fieldLink RX12 176 "RentRiverModel" "word" "J"
theorem wi_319 : ww_319 ∈ mj_tb := mj_t6 (i := 141) rfl rfl
abbrev ww_320 : Cond := .methodLink RX12 202 yX12_isWord
theorem wi_320 : ww_320 ∈ mj_tb := mj_t7 (i := 97) rfl rfl
abbrev ww_321 : Cond := .fieldLink RX12 378 "RentRiverModel" "leakMany" "I"
theorem wi_321 : ww_321 ∈ mj_tb := mj_t6 (i := 173) rfl rfl
abbrev ww_322 : Cond := .fieldLink RX12 18 "RentRiverModel" "size" "I"
theorem wi_322 : ww_322 ∈ mj_tb := mj_t6 (i := 127) rfl rfl
abbrev ww_323 : Cond := .fieldLink RX12 327 "RentRiverModel" "leakMonth" "I"
theorem wi_323 : ww_323 ∈ mj_tb := mj_t6 (i := 157) rfl rfl
abbrev ww_324 : Cond := .fieldLink RX12 330 "RentRiverModel" "leakMuch" "I"
theorem wi_324 : ww_324 ∈ mj_tb := mj_t6 (i := 158) rfl rfl
abbrev ww_325 : Cond := .methodLink RX12 153 yX12_peek
theorem wi_325 : ww_325 ∈ mj_tb := mj_t7 (i := 83) rfl rfl
abbrev ww_326 : Cond := .fieldLink RX12 21 "RentRiverModel" "p" "I"
theorem wi_326 : ww_326 ∈ mj_tb := mj_t6 (i := 128) rfl rfl
abbrev ww_327 : Cond := .fieldLink RX12 160 "RentRiverModel" "span" "I"
theorem wi_327 : ww_327 ∈ mj_tb := mj_t6 (i := 137) rfl rfl
abbrev ww_328 : Cond := .fieldLink RX12 24 "RentRiverModel" "limit" "I"
theorem wi_328 : ww_328 ∈ mj_tb := mj_t6 (i := 129) rfl rfl
abbrev ww_329 : Cond := .fieldLink RX12 254 "RentRiverModel" "undoMany" "I"
theorem wi_329 : ww_329 ∈ mj_tb := mj_t6 (i := 152) rfl rfl
abbrev ww_330 : Cond := .methodLink RX12 186 yX12_isSign
theorem wi_330 : ww_330 ∈ mj_tb := mj_t7 (i := 139) rfl rfl
abbrev ww_331 : Cond := .methodLink RX12 418 yX12_leafOf
theorem wi_331 : ww_331 ∈ mj_tb := mj_t8 (i := 192) rfl rfl
abbrev ww_332 : Cond := .methodLink RX12 189 yX12_bad
theorem wi_332 : ww_332 ∈ mj_tb := mj_t7 (i := 105) rfl rfl
abbrev ww_333 : Cond := .fieldLink RX12 421 "RentRiverModel" "ones" "I"
theorem wi_333 : ww_333 ∈ mj_tb := mj_t6 (i := 178) rfl rfl
abbrev ww_334 : Cond := .fieldLink RX12 415 "RentRiverModel" "deep" "I"
theorem wi_334 : ww_334 ∈ mj_tb := mj_t6 (i := 180) rfl rfl
abbrev ww_335 : Cond := .fieldLink RX12 409 "RentRiverModel" "top" "I"
theorem wi_335 : ww_335 ∈ mj_tb := mj_t6 (i := 179) rfl rfl
abbrev ww_336 : Cond := .fieldLink RX12 424 "RentRiverModel" "isWhole" "Z"
theorem wi_336 : ww_336 ∈ mj_tb := mj_t6 (i := 181) rfl rfl
abbrev ww_337 : Cond := .fieldLink RX12 245 "RentRiverModel" "rows" "I"
theorem wi_337 : ww_337 ∈ mj_tb := mj_t6 (i := 143) rfl rfl
abbrev ww_338 : Cond := .fieldLink RX12 229 "RentRiverModel" "onces" "I"
theorem wi_338 : ww_338 ∈ mj_tb := mj_t6 (i := 144) rfl rfl
abbrev ww_339 : Cond := .fieldLink RX12 239 "RentRiverModel" "bids" "I"
theorem wi_339 : ww_339 ∈ mj_tb := mj_t6 (i := 145) rfl rfl
abbrev ww_340 : Cond := .fieldLink RX12 210 "RentRiverModel" "rain" "I"
theorem wi_340 : ww_340 ∈ mj_tb := mj_t6 (i := 146) rfl rfl
abbrev ww_341 : Cond := .fieldLink RX12 257 "RentRiverModel" "plainsRead" "I"
theorem wi_341 : ww_341 ∈ mj_tb := mj_t6 (i := 150) rfl rfl
abbrev ww_342 : Cond := .fieldLink RX12 406 "RentRiverModel" "codes" "I"
theorem wi_342 : ww_342 ∈ mj_tb := mj_t6 (i := 177) rfl rfl
abbrev ww_343 : Cond := .methodLink RX12 436 yX12_operand
theorem wi_343 : ww_343 ∈ mj_tb := mj_t8 (i := 188) rfl rfl
abbrev ww_344 : Cond := .methodLink RX12 266 yX12_throwsIf
theorem wi_344 : ww_344 ∈ mj_tb := mj_t7 (i := 155) rfl rfl
abbrev ww_345 : Cond := .code yX0_init cX0_init 1 none
theorem wi_345 : ww_345 ∈ mj_tb := mj_t2 (i := 94) rfl rfl
abbrev ww_346 : Cond := .instanceMethod yX0_init
theorem wi_346 : ww_346 ∈ mj_tb := mj_t2 (i := 93) rfl rfl
abbrev ww_347 : Cond := .code yX1_clear cX1_clear 2 none
theorem wi_347 : ww_347 ∈ mj_tb := mj_t1 (i := 179) rfl rfl
abbrev ww_348 : Cond := .instanceMethod yX1_clear
theorem wi_348 : ww_348 ∈ mj_tb := mj_t1 (i := 177) rfl rfl
abbrev ww_349 : Cond := .selects RX1 yX1_clear yX1_clear
theorem wi_349 : ww_349 ∈ mj_tb := mj_t1 (i := 178) rfl rfl
abbrev ww_350 : Cond := .code yX1_copy cX1_copy 2 none
theorem wi_350 : ww_350 ∈ mj_tb := mj_t5 (i := 230) rfl rfl
abbrev ww_351 : Cond := .instanceMethod yX1_copy
theorem wi_351 : ww_351 ∈ mj_tb := mj_t5 (i := 228) rfl rfl
abbrev ww_352 : Cond := .selects RX1 yX1_copy yX1_copy
theorem wi_352 : ww_352 ∈ mj_tb := mj_t5 (i := 229) rfl rfl
abbrev ww_353 : Cond := .code yX1_init cX1_init 1 none
theorem wi_353 : ww_353 ∈ mj_tb := mj_t1 (i := 174) rfl rfl
abbrev ww_354 : Cond := .instanceMethod yX1_init
theorem wi_354 : ww_354 ∈ mj_tb := mj_t1 (i := 173) rfl rfl
abbrev ww_355 : Cond := .code yX1_readRows cX1_readRows 4 none
theorem wi_355 : ww_355 ∈ mj_tb := mj_t3 (i := 239) rfl rfl
abbrev ww_356 : Cond := .instanceMethod yX1_readRows
theorem wi_356 : ww_356 ∈ mj_tb := mj_t3 (i := 237) rfl rfl
abbrev ww_357 : Cond := .selects RX1 yX1_readRows yX1_readRows
theorem wi_357 : ww_357 ∈ mj_tb := mj_t3 (i := 238) rfl rfl
abbrev ww_358 : Cond := .code yX1_tells cX1_tells 2 (some .boolean)
theorem wi_358 : ww_358 ∈ mj_tb := mj_t4 (i := 14) rfl rfl
abbrev ww_359 : Cond := .instanceMethod yX1_tells
theorem wi_359 : ww_359 ∈ mj_tb := mj_t4 (i := 12) rfl rfl
abbrev ww_360 : Cond := .selects RX1 yX1_tells yX1_tells
theorem wi_360 : ww_360 ∈ mj_tb := mj_t4 (i := 13) rfl rfl
abbrev ww_361 : Cond := .code yX2_init cX2_init 1 none
theorem wi_361 : ww_361 ∈ mj_tb := mj_t2 (i := 184) rfl rfl
abbrev ww_362 : Cond := .instanceMethod yX2_init
theorem wi_362 : ww_362 ∈ mj_tb := mj_t2 (i := 183) rfl rfl
abbrev ww_363 : Cond := .code yX2_readLevels cX2_readLevels 8 (some .boolean)
theorem wi_363 : ww_363 ∈ mj_tb := mj_t5 (i := 14) rfl rfl
abbrev ww_364 : Cond := .instanceMethod yX2_readLevels
theorem wi_364 : ww_364 ∈ mj_tb := mj_t5 (i := 12) rfl rfl
abbrev ww_365 : Cond := .selects RX2 yX2_readLevels yX2_readLevels
theorem wi_365 : ww_365 ∈ mj_tb := mj_t5 (i := 13) rfl rfl
abbrev ww_366 : Cond := .code yX3_clear cX3_clear 3 none
theorem wi_366 : ww_366 ∈ mj_tb := mj_t3 (i := 44) rfl rfl
abbrev ww_367 : Cond := .instanceMethod yX3_clear
theorem wi_367 : ww_367 ∈ mj_tb := mj_t3 (i := 42) rfl rfl
abbrev ww_368 : Cond := .selects RX3 yX3_clear yX3_clear
theorem wi_368 : ww_368 ∈ mj_tb := mj_t3 (i := 43) rfl rfl
abbrev ww_369 : Cond := .code yX3_copy cX3_copy 3 none
theorem wi_369 : ww_369 ∈ mj_tb := mj_t5 (i := 113) rfl rfl
abbrev ww_370 : Cond := .instanceMethod yX3_copy
theorem wi_370 : ww_370 ∈ mj_tb := mj_t5 (i := 111) rfl rfl
abbrev ww_371 : Cond := .selects RX3 yX3_copy yX3_copy
theorem wi_371 : ww_371 ∈ mj_tb := mj_t5 (i := 112) rfl rfl
abbrev ww_372 : Cond := .code yX3_init cX3_init 1 none
theorem wi_372 : ww_372 ∈ mj_tb := mj_t1 (i := 94) rfl rfl
abbrev ww_373 : Cond := .instanceMethod yX3_init
theorem wi_373 : ww_373 ∈ mj_tb := mj_t1 (i := 93) rfl rfl
abbrev ww_374 : Cond := .code yX3_readRows cX3_readRows 3 (some .int)
theorem wi_374 : ww_374 ∈ mj_tb := mj_t3 (i := 52) rfl rfl
abbrev ww_375 : Cond := .instanceMethod yX3_readRows
theorem wi_375 : ww_375 ∈ mj_tb := mj_t3 (i := 50) rfl rfl
abbrev ww_376 : Cond := .selects RX3 yX3_readRows yX3_readRows
theorem wi_376 : ww_376 ∈ mj_tb := mj_t3 (i := 51) rfl rfl
abbrev ww_377 : Cond := .code yX4_init cX4_init 1 none
theorem wi_377 : ww_377 ∈ mj_tb := mj_t2 (i := 162) rfl rfl
abbrev ww_378 : Cond := .instanceMethod yX4_init
theorem wi_378 : ww_378 ∈ mj_tb := mj_t2 (i := 161) rfl rfl
abbrev ww_379 : Cond := .code yX5_begins cX5_begins 1 (some .boolean)
theorem wi_379 : ww_379 ∈ mj_tb := mj_t5 (i := 161) rfl rfl
abbrev ww_380 : Cond := .static yX5_begins
theorem wi_380 : ww_380 ∈ mj_tb := mj_t5 (i := 160) rfl rfl
abbrev ww_381 : Cond := .code yX5_clear cX5_clear 1 none
theorem wi_381 : ww_381 ∈ mj_tb := mj_t3 (i := 187) rfl rfl
abbrev ww_382 : Cond := .instanceMethod yX5_clear
theorem wi_382 : ww_382 ∈ mj_tb := mj_t3 (i := 185) rfl rfl
abbrev ww_383 : Cond := .selects RX5 yX5_clear yX5_clear
theorem wi_383 : ww_383 ∈ mj_tb := mj_t3 (i := 186) rfl rfl
abbrev ww_384 : Cond := .code yX5_copy cX5_copy 3 none
theorem wi_384 : ww_384 ∈ mj_tb := mj_t5 (i := 235) rfl rfl
abbrev ww_385 : Cond := .instanceMethod yX5_copy
theorem wi_385 : ww_385 ∈ mj_tb := mj_t5 (i := 233) rfl rfl
abbrev ww_386 : Cond := .selects RX5 yX5_copy yX5_copy
theorem wi_386 : ww_386 ∈ mj_tb := mj_t5 (i := 234) rfl rfl
abbrev ww_387 : Cond := .code yX5_init cX5_init 1 none
theorem wi_387 : ww_387 ∈ mj_tb := mj_t1 (i := 204) rfl rfl
abbrev ww_388 : Cond := .instanceMethod yX5_init
theorem wi_388 : ww_388 ∈ mj_tb := mj_t1 (i := 203) rfl rfl
abbrev ww_389 : Cond := .code yX5_readAll cX5_readAll 4 (some .boolean)
theorem wi_389 : ww_389 ∈ mj_tb := mj_t5 (i := 153) rfl rfl
abbrev ww_390 : Cond := .instanceMethod yX5_readAll
theorem wi_390 : ww_390 ∈ mj_tb := mj_t5 (i := 152) rfl rfl
abbrev ww_391 : Cond := .selects RX5 yX5_readAll yX5_readAll
theorem wi_391 : ww_391 ∈ mj_tb := mj_q4 (i := 4) rfl rfl rfl
abbrev ww_392 : Cond := .code yX5_readCond cX5_readCond 4 (some .boolean)
theorem wi_392 : ww_392 ∈ mj_tb := mj_t5 (i := 149) rfl rfl
abbrev ww_393 : Cond := .instanceMethod yX5_readCond
theorem wi_393 : ww_393 ∈ mj_tb := mj_t5 (i := 148) rfl rfl
abbrev ww_394 : Cond := .selects RX5 yX5_readCond yX5_readCond
theorem wi_394 : ww_394 ∈ mj_tb := mj_q4 (i := 3) rfl rfl rfl
abbrev ww_395 : Cond := .code yX5_readOne cX5_readOne 5 (some .boolean)
theorem wi_395 : ww_395 ∈ mj_tb := mj_t5 (i := 157) rfl rfl
abbrev ww_396 : Cond := .instanceMethod yX5_readOne
theorem wi_396 : ww_396 ∈ mj_tb := mj_t5 (i := 156) rfl rfl
abbrev ww_397 : Cond := .selects RX5 yX5_readOne yX5_readOne
theorem wi_397 : ww_397 ∈ mj_tb := mj_q4 (i := 5) rfl rfl rfl
abbrev ww_398 : Cond := .code yX5_readText cX5_readText 2 none
theorem wi_398 : ww_398 ∈ mj_tb := mj_t5 (i := 144) rfl rfl
abbrev ww_399 : Cond := .instanceMethod yX5_readText
theorem wi_399 : ww_399 ∈ mj_tb := mj_t5 (i := 142) rfl rfl
abbrev ww_400 : Cond := .selects RX5 yX5_readText yX5_readText
theorem wi_400 : ww_400 ∈ mj_tb := mj_t5 (i := 143) rfl rfl
abbrev ww_401 : Cond := .code yX6_copy cX6_copy 2 none
theorem wi_401 : ww_401 ∈ mj_tb := mj_t5 (i := 225) rfl rfl
abbrev ww_402 : Cond := .instanceMethod yX6_copy
theorem wi_402 : ww_402 ∈ mj_tb := mj_t5 (i := 223) rfl rfl
abbrev ww_403 : Cond := .selects RX6 yX6_copy yX6_copy
theorem wi_403 : ww_403 ∈ mj_tb := mj_t5 (i := 224) rfl rfl
abbrev ww_404 : Cond := .code yX6_init cX6_init 1 none
theorem wi_404 : ww_404 ∈ mj_tb := mj_t1 (i := 88) rfl rfl
abbrev ww_405 : Cond := .instanceMethod yX6_init
theorem wi_405 : ww_405 ∈ mj_tb := mj_t1 (i := 87) rfl rfl
abbrev ww_406 : Cond := .code yX7_advance cX7_advance 2 none
theorem wi_406 : ww_406 ∈ mj_tb := mj_t3 (i := 56) rfl rfl
abbrev ww_407 : Cond := .instanceMethod yX7_advance
theorem wi_407 : ww_407 ∈ mj_tb := mj_t3 (i := 54) rfl rfl
abbrev ww_408 : Cond := .selects RX7 yX7_advance yX7_advance
theorem wi_408 : ww_408 ∈ mj_tb := mj_t3 (i := 55) rfl rfl
abbrev ww_409 : Cond := .code yX7_finish cX7_finish 1 (some .boolean)
theorem wi_409 : ww_409 ∈ mj_tb := mj_t3 (i := 182) rfl rfl
abbrev ww_410 : Cond := .instanceMethod yX7_finish
theorem wi_410 : ww_410 ∈ mj_tb := mj_t3 (i := 180) rfl rfl
abbrev ww_411 : Cond := .selects RX7 yX7_finish yX7_finish
theorem wi_411 : ww_411 ∈ mj_tb := mj_t3 (i := 181) rfl rfl
abbrev ww_412 : Cond := .code yX7_hasRoom cX7_hasRoom 1 (some .boolean)
theorem wi_412 : ww_412 ∈ mj_tb := mj_t3 (i := 28) rfl rfl
abbrev ww_413 : Cond := .instanceMethod yX7_hasRoom
theorem wi_413 : ww_413 ∈ mj_tb := mj_t3 (i := 26) rfl rfl
abbrev ww_414 : Cond := .selects RX7 yX7_hasRoom yX7_hasRoom
theorem wi_414 : ww_414 ∈ mj_tb := mj_t3 (i := 27) rfl rfl
abbrev ww_415 : Cond := .code yX7_init cX7_init 1 none
theorem wi_415 : ww_415 ∈ mj_tb := mj_t1 (i := 33) rfl rfl
abbrev ww_416 : Cond := .instanceMethod yX7_init
theorem wi_416 : ww_416 ∈ mj_tb := mj_t1 (i := 32) rfl rfl
abbrev ww_417 : Cond := .code yX7_isSign cX7_isSign 2 (some .boolean)
theorem wi_417 : ww_417 ∈ mj_tb := mj_t3 (i := 178) rfl rfl
abbrev ww_418 : Cond := .instanceMethod yX7_isSign
theorem wi_418 : ww_418 ∈ mj_tb := mj_t3 (i := 176) rfl rfl
abbrev ww_419 : Cond := .selects RX7 yX7_isSign yX7_isSign
theorem wi_419 : ww_419 ∈ mj_tb := mj_t3 (i := 177) rfl rfl
abbrev ww_420 : Cond := .code yX7_open cX7_open 2 none
theorem wi_420 : ww_420 ∈ mj_tb := mj_t3 (i := 48) rfl rfl
abbrev ww_421 : Cond := .instanceMethod yX7_open
theorem wi_421 : ww_421 ∈ mj_tb := mj_t3 (i := 46) rfl rfl
abbrev ww_422 : Cond := .selects RX7 yX7_open yX7_open
theorem wi_422 : ww_422 ∈ mj_tb := mj_t3 (i := 47) rfl rfl
abbrev ww_423 : Cond := .code yX7_put cX7_put 3 none
theorem wi_423 : ww_423 ∈ mj_tb := mj_t3 (i := 32) rfl rfl
abbrev ww_424 : Cond := .instanceMethod yX7_put
theorem wi_424 : ww_424 ∈ mj_tb := mj_t3 (i := 30) rfl rfl
abbrev ww_425 : Cond := .selects RX7 yX7_put yX7_put
theorem wi_425 : ww_425 ∈ mj_tb := mj_t3 (i := 31) rfl rfl
abbrev ww_426 : Cond := .code yX7_refuse cX7_refuse 2 (some .boolean)
theorem wi_426 : ww_426 ∈ mj_tb := mj_t3 (i := 86) rfl rfl
abbrev ww_427 : Cond := .instanceMethod yX7_refuse
theorem wi_427 : ww_427 ∈ mj_tb := mj_t3 (i := 84) rfl rfl
abbrev ww_428 : Cond := .selects RX7 yX7_refuse yX7_refuse
theorem wi_428 : ww_428 ∈ mj_tb := mj_t3 (i := 85) rfl rfl
abbrev ww_429 : Cond := .code yX8_back cX8_back 2 (some .int)
theorem wi_429 : ww_429 ∈ mj_tb := mj_t3 (i := 226) rfl rfl
abbrev ww_430 : Cond := .instanceMethod yX8_back
theorem wi_430 : ww_430 ∈ mj_tb := mj_t3 (i := 224) rfl rfl
abbrev ww_431 : Cond := .selects RX8 yX8_back yX8_back
theorem wi_431 : ww_431 ∈ mj_tb := mj_t3 (i := 225) rfl rfl
abbrev ww_432 : Cond := .code yX8_init cX8_init 1 none
theorem wi_432 : ww_432 ∈ mj_tb := mj_t2 (i := 74) rfl rfl
abbrev ww_433 : Cond := .instanceMethod yX8_init
theorem wi_433 : ww_433 ∈ mj_tb := mj_t2 (i := 73) rfl rfl
abbrev ww_434 : Cond := .code yX10_copy cX10_copy 3 none
theorem wi_434 : ww_434 ∈ mj_tb := mj_t5 (i := 28) rfl rfl
abbrev ww_435 : Cond := .instanceMethod yX10_copy
theorem wi_435 : ww_435 ∈ mj_tb := mj_t5 (i := 26) rfl rfl
abbrev ww_436 : Cond := .selects RX10 yX10_copy yX10_copy
theorem wi_436 : ww_436 ∈ mj_tb := mj_t5 (i := 27) rfl rfl
abbrev ww_437 : Cond := .code yX10_init cX10_init 1 none
theorem wi_437 : ww_437 ∈ mj_tb := mj_t1 (i := 233) rfl rfl
abbrev ww_438 : Cond := .instanceMethod yX10_init
theorem wi_438 : ww_438 ∈ mj_tb := mj_t1 (i := 232) rfl rfl
abbrev ww_439 : Cond := .code yX11_begin cX11_begin 1 (some .boolean)
theorem wi_439 : ww_439 ∈ mj_tb := mj_t4 (i := 36) rfl rfl
abbrev ww_440 : Cond := .initialized RX11
theorem wi_440 : ww_440 ∈ mj_tb := mj_t1 (i := 1) rfl rfl
abbrev ww_441 : Cond := .instanceMethod yX11_begin
theorem wi_441 : ww_441 ∈ mj_tb := mj_t4 (i := 34) rfl rfl
abbrev ww_442 : Cond := .selects RX11 yX11_begin yX11_begin
theorem wi_442 : ww_442 ∈ mj_tb := mj_t4 (i := 35) rfl rfl
abbrev ww_443 : Cond := .code yX11_bid cX11_bid 3 (some .int)
theorem wi_443 : ww_443 ∈ mj_tb := mj_t3 (i := 199) rfl rfl
abbrev ww_444 : Cond := .instanceMethod yX11_bid
theorem wi_444 : ww_444 ∈ mj_tb := mj_t3 (i := 197) rfl rfl
abbrev ww_445 : Cond := .selects RX11 yX11_bid yX11_bid
theorem wi_445 : ww_445 ∈ mj_tb := mj_t3 (i := 198) rfl rfl
abbrev ww_446 : Cond := .code yX11_bidsOf cX11_bidsOf 4 (some .int)
theorem wi_446 : ww_446 ∈ mj_tb := mj_t5 (i := 79) rfl rfl
abbrev ww_447 : Cond := .instanceMethod yX11_bidsOf
theorem wi_447 : ww_447 ∈ mj_tb := mj_t5 (i := 77) rfl rfl
abbrev ww_448 : Cond := .selects RX11 yX11_bidsOf yX11_bidsOf
theorem wi_448 : ww_448 ∈ mj_tb := mj_t5 (i := 78) rfl rfl
abbrev ww_449 : Cond := .code yX11_byteAt cX11_byteAt 2 (some .int)
theorem wi_449 : ww_449 ∈ mj_tb := mj_t5 (i := 105) rfl rfl
abbrev ww_450 : Cond := .instanceMethod yX11_byteAt
theorem wi_450 : ww_450 ∈ mj_tb := mj_t5 (i := 103) rfl rfl
abbrev ww_451 : Cond := .selects RX11 yX11_byteAt yX11_byteAt
theorem wi_451 : ww_451 ∈ mj_tb := mj_t5 (i := 104) rfl rfl
abbrev ww_452 : Cond := .code yX11_cheapest cX11_cheapest 1 (some .int)
theorem wi_452 : ww_452 ∈ mj_tb := mj_t4 (i := 136) rfl rfl
abbrev ww_453 : Cond := .instanceMethod yX11_cheapest
theorem wi_453 : ww_453 ∈ mj_tb := mj_t4 (i := 134) rfl rfl
abbrev ww_454 : Cond := .selects RX11 yX11_cheapest yX11_cheapest
theorem wi_454 : ww_454 ∈ mj_tb := mj_t4 (i := 135) rfl rfl
abbrev ww_455 : Cond := .code yX11_closeTape cX11_closeTape 2 (some .int)
theorem wi_455 : ww_455 ∈ mj_tb := mj_t3 (i := 191) rfl rfl
abbrev ww_456 : Cond := .instanceMethod yX11_closeTape
theorem wi_456 : ww_456 ∈ mj_tb := mj_t3 (i := 190) rfl rfl
abbrev ww_457 : Cond := .selects RX11 yX11_closeTape yX11_closeTape
theorem wi_457 : ww_457 ∈ mj_tb := mj_q1 (i := 10) rfl rfl rfl
abbrev ww_458 : Cond := .code yX11_contract cX11_contract 3 (some .int)
theorem wi_458 : ww_458 ∈ mj_tb := mj_t4 (i := 31) rfl rfl
abbrev ww_459 : Cond := .instanceMethod yX11_contract
theorem wi_459 : ww_459 ∈ mj_tb := mj_t4 (i := 29) rfl rfl
abbrev ww_460 : Cond := .selects RX11 yX11_contract yX11_contract
theorem wi_460 : ww_460 ∈ mj_tb := mj_t4 (i := 30) rfl rfl
abbrev ww_461 : Cond := .code yX11_contracts cX11_contracts 2 (some .int)
theorem wi_461 : ww_461 ∈ mj_tb := mj_t3 (i := 235) rfl rfl
abbrev ww_462 : Cond := .instanceMethod yX11_contracts
theorem wi_462 : ww_462 ∈ mj_tb := mj_t3 (i := 233) rfl rfl
abbrev ww_463 : Cond := .selects RX11 yX11_contracts yX11_contracts
theorem wi_463 : ww_463 ∈ mj_tb := mj_t3 (i := 234) rfl rfl
abbrev ww_464 : Cond := .code yX11_count cX11_count 2 (some .int)
theorem wi_464 : ww_464 ∈ mj_tb := mj_t6 (i := 4) rfl rfl
abbrev ww_465 : Cond := .instanceMethod yX11_count
theorem wi_465 : ww_465 ∈ mj_tb := mj_t6 (i := 2) rfl rfl
abbrev ww_466 : Cond := .selects RX11 yX11_count yX11_count
theorem wi_466 : ww_466 ∈ mj_tb := mj_t6 (i := 3) rfl rfl
abbrev ww_467 : Cond := .code yX11_drawn cX11_drawn 2 (some .int)
theorem wi_467 : ww_467 ∈ mj_tb := mj_t5 (i := 118) rfl rfl
abbrev ww_468 : Cond := .instanceMethod yX11_drawn
theorem wi_468 : ww_468 ∈ mj_tb := mj_t5 (i := 116) rfl rfl
abbrev ww_469 : Cond := .selects RX11 yX11_drawn yX11_drawn
theorem wi_469 : ww_469 ∈ mj_tb := mj_t5 (i := 117) rfl rfl
abbrev ww_470 : Cond := .code yX11_droughts cX11_droughts 3 (some .int)
theorem wi_470 : ww_470 ∈ mj_tb := mj_t4 (i := 132) rfl rfl
abbrev ww_471 : Cond := .instanceMethod yX11_droughts
theorem wi_471 : ww_471 ∈ mj_tb := mj_t4 (i := 130) rfl rfl
abbrev ww_472 : Cond := .selects RX11 yX11_droughts yX11_droughts
theorem wi_472 : ww_472 ∈ mj_tb := mj_t4 (i := 131) rfl rfl
abbrev ww_473 : Cond := .code yX11_end cX11_end 2 (some .boolean)
theorem wi_473 : ww_473 ∈ mj_tb := mj_t3 (i := 36) rfl rfl
abbrev ww_474 : Cond := .instanceMethod yX11_end
theorem wi_474 : ww_474 ∈ mj_tb := mj_t3 (i := 34) rfl rfl
abbrev ww_475 : Cond := .selects RX11 yX11_end yX11_end
theorem wi_475 : ww_475 ∈ mj_tb := mj_t3 (i := 35) rfl rfl
abbrev ww_476 : Cond := .code yX11_enough cX11_enough 6 (some .int)
theorem wi_476 : ww_476 ∈ mj_tb := mj_t5 (i := 54) rfl rfl
abbrev ww_477 : Cond := .instanceMethod yX11_enough
theorem wi_477 : ww_477 ∈ mj_tb := mj_t5 (i := 52) rfl rfl
abbrev ww_478 : Cond := .selects RX11 yX11_enough yX11_enough
theorem wi_478 : ww_478 ∈ mj_tb := mj_t5 (i := 53) rfl rfl
abbrev ww_479 : Cond := .code yX11_fault cX11_fault 1 (some .int)
theorem wi_479 : ww_479 ∈ mj_tb := mj_t3 (i := 195) rfl rfl
abbrev ww_480 : Cond := .instanceMethod yX11_fault
theorem wi_480 : ww_480 ∈ mj_tb := mj_t3 (i := 193) rfl rfl
abbrev ww_481 : Cond := .selects RX11 yX11_fault yX11_fault
theorem wi_481 : ww_481 ∈ mj_tb := mj_t3 (i := 194) rfl rfl
abbrev ww_482 : Cond := .code yX11_feed cX11_feed 6 (some .int)
theorem wi_482 : ww_482 ∈ mj_tb := mj_t3 (i := 24) rfl rfl
abbrev ww_483 : Cond := .instanceMethod yX11_feed
theorem wi_483 : ww_483 ∈ mj_tb := mj_t3 (i := 22) rfl rfl
abbrev ww_484 : Cond := .selects RX11 yX11_feed yX11_feed
theorem wi_484 : ww_484 ∈ mj_tb := mj_t3 (i := 23) rfl rfl
abbrev ww_485 : Cond := .code yX11_greatest cX11_greatest 5 (some .int)
theorem wi_485 : ww_485 ∈ mj_tb := mj_t5 (i := 83) rfl rfl
abbrev ww_486 : Cond := .instanceMethod yX11_greatest
theorem wi_486 : ww_486 ∈ mj_tb := mj_t5 (i := 81) rfl rfl
abbrev ww_487 : Cond := .selects RX11 yX11_greatest yX11_greatest
theorem wi_487 : ww_487 ∈ mj_tb := mj_t5 (i := 82) rfl rfl
abbrev ww_488 : Cond := .code yX11_has cX11_has 2 (some .int)
theorem wi_488 : ww_488 ∈ mj_tb := mj_t5 (i := 2) rfl rfl
abbrev ww_489 : Cond := .instanceMethod yX11_has
theorem wi_489 : ww_489 ∈ mj_tb := mj_t5 (i := 0) rfl rfl
abbrev ww_490 : Cond := .selects RX11 yX11_has yX11_has
theorem wi_490 : ww_490 ∈ mj_tb := mj_t5 (i := 1) rfl rfl
abbrev ww_491 : Cond := .code yX11_image cX11_image 2 (some .boolean)
theorem wi_491 : ww_491 ∈ mj_tb := mj_t5 (i := 221) rfl rfl
abbrev ww_492 : Cond := .instanceMethod yX11_image
theorem wi_492 : ww_492 ∈ mj_tb := mj_t5 (i := 219) rfl rfl
abbrev ww_493 : Cond := .selects RX11 yX11_image yX11_image
theorem wi_493 : ww_493 ∈ mj_tb := mj_t5 (i := 220) rfl rfl
abbrev ww_494 : Cond := .code yX11_init cX11_init 2 none
theorem wi_494 : ww_494 ∈ mj_tb := mj_t1 (i := 25) rfl rfl
abbrev ww_495 : Cond := .instanceMethod yX11_init
theorem wi_495 : ww_495 ∈ mj_tb := mj_t1 (i := 24) rfl rfl
abbrev ww_496 : Cond := .code yX11_isMonth cX11_isMonth 1 (some .boolean)
theorem wi_496 : ww_496 ∈ mj_tb := mj_t3 (i := 206) rfl rfl
abbrev ww_497 : Cond := .static yX11_isMonth
theorem wi_497 : ww_497 ∈ mj_tb := mj_t3 (i := 205) rfl rfl
abbrev ww_498 : Cond := .code yX11_isTown cX11_isTown 2 (some .boolean)
theorem wi_498 : ww_498 ∈ mj_tb := mj_t3 (i := 203) rfl rfl
abbrev ww_499 : Cond := .instanceMethod yX11_isTown
theorem wi_499 : ww_499 ∈ mj_tb := mj_t3 (i := 202) rfl rfl
abbrev ww_500 : Cond := .selects RX11 yX11_isTown yX11_isTown
theorem wi_500 : ww_500 ∈ mj_tb := mj_q1 (i := 11) rfl rfl rfl
abbrev ww_501 : Cond := .code yX11_leak cX11_leak 3 (some .int)
theorem wi_501 : ww_501 ∈ mj_tb := mj_t5 (i := 46) rfl rfl
abbrev ww_502 : Cond := .instanceMethod yX11_leak
theorem wi_502 : ww_502 ∈ mj_tb := mj_t5 (i := 44) rfl rfl
abbrev ww_503 : Cond := .selects RX11 yX11_leak yX11_leak
theorem wi_503 : ww_503 ∈ mj_tb := mj_t5 (i := 45) rfl rfl
abbrev ww_504 : Cond := .code yX11_leaks cX11_leaks 2 (some .int)
theorem wi_504 : ww_504 ∈ mj_tb := mj_t5 (i := 10) rfl rfl
abbrev ww_505 : Cond := .instanceMethod yX11_leaks
theorem wi_505 : ww_505 ∈ mj_tb := mj_t5 (i := 8) rfl rfl
abbrev ww_506 : Cond := .selects RX11 yX11_leaks yX11_leaks
theorem wi_506 : ww_506 ∈ mj_tb := mj_t5 (i := 9) rfl rfl
abbrev ww_507 : Cond := .code yX11_let cX11_let 3 (some .int)
theorem wi_507 : ww_507 ∈ mj_tb := mj_t4 (i := 128) rfl rfl
abbrev ww_508 : Cond := .instanceMethod yX11_let
theorem wi_508 : ww_508 ∈ mj_tb := mj_t4 (i := 126) rfl rfl
abbrev ww_509 : Cond := .selects RX11 yX11_let yX11_let
theorem wi_509 : ww_509 ∈ mj_tb := mj_t4 (i := 127) rfl rfl
abbrev ww_510 : Cond := .code yX11_must cX11_must 4 (some .int)
theorem wi_510 : ww_510 ∈ mj_tb := mj_t5 (i := 131) rfl rfl
abbrev ww_511 : Cond := .instanceMethod yX11_must
theorem wi_511 : ww_511 ∈ mj_tb := mj_t5 (i := 129) rfl rfl
abbrev ww_512 : Cond := .selects RX11 yX11_must yX11_must
theorem wi_512 : ww_512 ∈ mj_tb := mj_t5 (i := 130) rfl rfl
abbrev ww_513 : Cond := .code yX11_offer cX11_offer 5 (some .boolean)
theorem wi_513 : ww_513 ∈ mj_tb := mj_t3 (i := 210) rfl rfl
abbrev ww_514 : Cond := .instanceMethod yX11_offer
theorem wi_514 : ww_514 ∈ mj_tb := mj_t3 (i := 208) rfl rfl
abbrev ww_515 : Cond := .selects RX11 yX11_offer yX11_offer
theorem wi_515 : ww_515 ∈ mj_tb := mj_t3 (i := 209) rfl rfl
abbrev ww_516 : Cond := .code yX11_on cX11_on 3 (some .int)
theorem wi_516 : ww_516 ∈ mj_tb := mj_t4 (i := 44) rfl rfl
abbrev ww_517 : Cond := .instanceMethod yX11_on
theorem wi_517 : ww_517 ∈ mj_tb := mj_t4 (i := 42) rfl rfl
abbrev ww_518 : Cond := .selects RX11 yX11_on yX11_on
theorem wi_518 : ww_518 ∈ mj_tb := mj_t4 (i := 43) rfl rfl
abbrev ww_519 : Cond := .code yX11_plain cX11_plain 3 (some .int)
theorem wi_519 : ww_519 ∈ mj_tb := mj_t3 (i := 40) rfl rfl
abbrev ww_520 : Cond := .instanceMethod yX11_plain
theorem wi_520 : ww_520 ∈ mj_tb := mj_t3 (i := 38) rfl rfl
abbrev ww_521 : Cond := .selects RX11 yX11_plain yX11_plain
theorem wi_521 : ww_521 ∈ mj_tb := mj_t3 (i := 39) rfl rfl
abbrev ww_522 : Cond := .code yX11_plan cX11_plan 2 (some .int)
theorem wi_522 : ww_522 ∈ mj_tb := mj_t4 (i := 213) rfl rfl
abbrev ww_523 : Cond := .instanceMethod yX11_plan
theorem wi_523 : ww_523 ∈ mj_tb := mj_t4 (i := 211) rfl rfl
abbrev ww_524 : Cond := .selects RX11 yX11_plan yX11_plan
theorem wi_524 : ww_524 ∈ mj_tb := mj_t4 (i := 212) rfl rfl
abbrev ww_525 : Cond := .code yX11_price cX11_price 2 (some .int)
theorem wi_525 : ww_525 ∈ mj_tb := mj_t5 (i := 6) rfl rfl
abbrev ww_526 : Cond := .instanceMethod yX11_price
theorem wi_526 : ww_526 ∈ mj_tb := mj_t5 (i := 4) rfl rfl
abbrev ww_527 : Cond := .selects RX11 yX11_price yX11_price
theorem wi_527 : ww_527 ∈ mj_tb := mj_t5 (i := 5) rfl rfl
abbrev ww_528 : Cond := .code yX11_restore cX11_restore 2 (some .boolean)
theorem wi_528 : ww_528 ∈ mj_tb := mj_t6 (i := 0) rfl rfl
abbrev ww_529 : Cond := .instanceMethod yX11_restore
theorem wi_529 : ww_529 ∈ mj_tb := mj_t5 (i := 238) rfl rfl
abbrev ww_530 : Cond := .selects RX11 yX11_restore yX11_restore
theorem wi_530 : ww_530 ∈ mj_tb := mj_t5 (i := 239) rfl rfl
abbrev ww_531 : Cond := .code yX11_rounds cX11_rounds 2 (some .int)
theorem wi_531 : ww_531 ∈ mj_tb := mj_t4 (i := 222) rfl rfl
abbrev ww_532 : Cond := .instanceMethod yX11_rounds
theorem wi_532 : ww_532 ∈ mj_tb := mj_t4 (i := 220) rfl rfl
abbrev ww_533 : Cond := .selects RX11 yX11_rounds yX11_rounds
theorem wi_533 : ww_533 ∈ mj_tb := mj_t4 (i := 221) rfl rfl
abbrev ww_534 : Cond := .code yX11_said cX11_said 4 (some .int)
theorem wi_534 : ww_534 ∈ mj_tb := mj_t5 (i := 208) rfl rfl
abbrev ww_535 : Cond := .instanceMethod yX11_said
theorem wi_535 : ww_535 ∈ mj_tb := mj_t5 (i := 206) rfl rfl
abbrev ww_536 : Cond := .selects RX11 yX11_said yX11_said
theorem wi_536 : ww_536 ∈ mj_tb := mj_t5 (i := 207) rfl rfl
abbrev ww_537 : Cond := .code yX11_sentence cX11_sentence 2 (some .int)
theorem wi_537 : ww_537 ∈ mj_tb := mj_t5 (i := 140) rfl rfl
abbrev ww_538 : Cond := .instanceMethod yX11_sentence
theorem wi_538 : ww_538 ∈ mj_tb := mj_t5 (i := 138) rfl rfl
abbrev ww_539 : Cond := .selects RX11 yX11_sentence yX11_sentence
theorem wi_539 : ww_539 ∈ mj_tb := mj_t5 (i := 139) rfl rfl
abbrev ww_540 : Cond := .code yX11_shores cX11_shores 6 (some .int)
theorem wi_540 : ww_540 ∈ mj_tb := mj_t5 (i := 127) rfl rfl
abbrev ww_541 : Cond := .instanceMethod yX11_shores
theorem wi_541 : ww_541 ∈ mj_tb := mj_t5 (i := 125) rfl rfl
abbrev ww_542 : Cond := .selects RX11 yX11_shores yX11_shores
theorem wi_542 : ww_542 ∈ mj_tb := mj_t5 (i := 126) rfl rfl
abbrev ww_543 : Cond := .code yX11_shoresOf cX11_shoresOf 3 (some .int)
theorem wi_543 : ww_543 ∈ mj_tb := mj_t5 (i := 63) rfl rfl
abbrev ww_544 : Cond := .instanceMethod yX11_shoresOf
theorem wi_544 : ww_544 ∈ mj_tb := mj_t5 (i := 61) rfl rfl
abbrev ww_545 : Cond := .selects RX11 yX11_shoresOf yX11_shoresOf
theorem wi_545 : ww_545 ∈ mj_tb := mj_t5 (i := 62) rfl rfl
abbrev ww_546 : Cond := .code yX11_take cX11_take 3 (some .boolean)
theorem wi_546 : ww_546 ∈ mj_tb := mj_t4 (i := 217) rfl rfl
abbrev ww_547 : Cond := .instanceMethod yX11_take
theorem wi_547 : ww_547 ∈ mj_tb := mj_t4 (i := 215) rfl rfl
abbrev ww_548 : Cond := .selects RX11 yX11_take yX11_take
theorem wi_548 : ww_548 ∈ mj_tb := mj_t4 (i := 216) rfl rfl
abbrev ww_549 : Cond := .code yX11_thirsty cX11_thirsty 3 (some .int)
theorem wi_549 : ww_549 ∈ mj_tb := mj_t5 (i := 71) rfl rfl
abbrev ww_550 : Cond := .instanceMethod yX11_thirsty
theorem wi_550 : ww_550 ∈ mj_tb := mj_t5 (i := 69) rfl rfl
abbrev ww_551 : Cond := .selects RX11 yX11_thirsty yX11_thirsty
theorem wi_551 : ww_551 ∈ mj_tb := mj_t5 (i := 70) rfl rfl
abbrev ww_552 : Cond := .code yX11_town cX11_town 3 (some .int)
theorem wi_552 : ww_552 ∈ mj_tb := mj_t4 (i := 124) rfl rfl
abbrev ww_553 : Cond := .instanceMethod yX11_town
theorem wi_553 : ww_553 ∈ mj_tb := mj_t4 (i := 122) rfl rfl
abbrev ww_554 : Cond := .selects RX11 yX11_town yX11_town
theorem wi_554 : ww_554 ∈ mj_tb := mj_t4 (i := 123) rfl rfl
abbrev ww_555 : Cond := .code yX11_undo cX11_undo 1 (some .int)
theorem wi_555 : ww_555 ∈ mj_tb := mj_t3 (i := 222) rfl rfl
abbrev ww_556 : Cond := .instanceMethod yX11_undo
theorem wi_556 : ww_556 ∈ mj_tb := mj_t3 (i := 220) rfl rfl
abbrev ww_557 : Cond := .selects RX11 yX11_undo yX11_undo
theorem wi_557 : ww_557 ∈ mj_tb := mj_t3 (i := 221) rfl rfl
abbrev ww_558 : Cond := .code yX11_water cX11_water 2 (some .int)
theorem wi_558 : ww_558 ∈ mj_tb := mj_t3 (i := 231) rfl rfl
abbrev ww_559 : Cond := .instanceMethod yX11_water
theorem wi_559 : ww_559 ∈ mj_tb := mj_t3 (i := 229) rfl rfl
abbrev ww_560 : Cond := .selects RX11 yX11_water yX11_water
theorem wi_560 : ww_560 ∈ mj_tb := mj_t3 (i := 230) rfl rfl
abbrev ww_561 : Cond := .code yX11_wettest cX11_wettest 4 (some .int)
theorem wi_561 : ww_561 ∈ mj_tb := mj_t5 (i := 50) rfl rfl
abbrev ww_562 : Cond := .instanceMethod yX11_wettest
theorem wi_562 : ww_562 ∈ mj_tb := mj_t5 (i := 48) rfl rfl
abbrev ww_563 : Cond := .selects RX11 yX11_wettest yX11_wettest
theorem wi_563 : ww_563 ∈ mj_tb := mj_t5 (i := 49) rfl rfl
abbrev ww_564 : Cond := .code yX11_worth cX11_worth 4 (some .int)
theorem wi_564 : ww_564 ∈ mj_tb := mj_t5 (i := 109) rfl rfl
abbrev ww_565 : Cond := .instanceMethod yX11_worth
theorem wi_565 : ww_565 ∈ mj_tb := mj_t5 (i := 107) rfl rfl
abbrev ww_566 : Cond := .selects RX11 yX11_worth yX11_worth
theorem wi_566 : ww_566 ∈ mj_tb := mj_t5 (i := 108) rfl rfl
abbrev ww_567 : Cond := .code yX11_write cX11_write 2 (some .int)
theorem wi_567 : ww_567 ∈ mj_tb := mj_t5 (i := 87) rfl rfl
abbrev ww_568 : Cond := .instanceMethod yX11_write
theorem wi_568 : ww_568 ∈ mj_tb := mj_t5 (i := 85) rfl rfl
abbrev ww_569 : Cond := .selects RX11 yX11_write yX11_write
theorem wi_569 : ww_569 ∈ mj_tb := mj_t5 (i := 86) rfl rfl
abbrev ww_570 : Cond := .code yX11_year cX11_year 2 (some .int)
theorem wi_570 : ww_570 ∈ mj_tb := mj_t4 (i := 112) rfl rfl
abbrev ww_571 : Cond := .instanceMethod yX11_year
theorem wi_571 : ww_571 ∈ mj_tb := mj_t4 (i := 110) rfl rfl
abbrev ww_572 : Cond := .selects RX11 yX11_year yX11_year
theorem wi_572 : ww_572 ∈ mj_tb := mj_t4 (i := 111) rfl rfl
abbrev ww_573 : Cond := .code yX12_bad cX12_bad 2 (some .boolean)
theorem wi_573 : ww_573 ∈ mj_tb := mj_t7 (i := 108) rfl rfl
abbrev ww_574 : Cond := .initialized RX12
theorem wi_574 : ww_574 ∈ mj_tb := mj_t1 (i := 12) rfl rfl
abbrev ww_575 : Cond := .instanceMethod yX12_bad
theorem wi_575 : ww_575 ∈ mj_tb := mj_t7 (i := 107) rfl rfl
abbrev ww_576 : Cond := .selects RX12 yX12_bad yX12_bad
theorem wi_576 : ww_576 ∈ mj_tb := mj_q5 (i := 2) rfl rfl rfl
abbrev ww_577 : Cond := .code yX12_begin cX12_begin 1 (some .boolean)
theorem wi_577 : ww_577 ∈ mj_tb := mj_t7 (i := 205) rfl rfl
abbrev ww_578 : Cond := .instanceMethod yX12_begin
theorem wi_578 : ww_578 ∈ mj_tb := mj_t7 (i := 203) rfl rfl
abbrev ww_579 : Cond := .selects RX12 yX12_begin yX12_begin
theorem wi_579 : ww_579 ∈ mj_tb := mj_t7 (i := 204) rfl rfl
abbrev ww_580 : Cond := .code yX12_bid cX12_bid 3 (some .int)
theorem wi_580 : ww_580 ∈ mj_tb := mj_t7 (i := 166) rfl rfl
abbrev ww_581 : Cond := .instanceMethod yX12_bid
theorem wi_581 : ww_581 ∈ mj_tb := mj_t7 (i := 164) rfl rfl
abbrev ww_582 : Cond := .selects RX12 yX12_bid yX12_bid
theorem wi_582 : ww_582 ∈ mj_tb := mj_t7 (i := 165) rfl rfl
abbrev ww_583 : Cond := .code yX12_bidMany cX12_bidMany 3 (some .int)
theorem wi_583 : ww_583 ∈ mj_tb := mj_t7 (i := 185) rfl rfl
abbrev ww_584 : Cond := .instanceMethod yX12_bidMany
theorem wi_584 : ww_584 ∈ mj_tb := mj_t7 (i := 184) rfl rfl
abbrev ww_585 : Cond := .selects RX12 yX12_bidMany yX12_bidMany
theorem wi_585 : ww_585 ∈ mj_tb := mj_q5 (i := 14) rfl rfl rfl
abbrev ww_586 : Cond := .code yX12_bidsOf cX12_bidsOf 4 (some .int)
theorem wi_586 : ww_586 ∈ mj_tb := mj_t8 (i := 126) rfl rfl
abbrev ww_587 : Cond := .instanceMethod yX12_bidsOf
theorem wi_587 : ww_587 ∈ mj_tb := mj_t8 (i := 124) rfl rfl
abbrev ww_588 : Cond := .selects RX12 yX12_bidsOf yX12_bidsOf
theorem wi_588 : ww_588 ∈ mj_tb := mj_t8 (i := 125) rfl rfl
abbrev ww_589 : Cond := .code yX12_byteAt cX12_byteAt 2 (some .int)
theorem wi_589 : ww_589 ∈ mj_tb := mj_t8 (i := 151) rfl rfl
abbrev ww_590 : Cond := .instanceMethod yX12_byteAt
theorem wi_590 : ww_590 ∈ mj_tb := mj_t8 (i := 149) rfl rfl
abbrev ww_591 : Cond := .selects RX12 yX12_byteAt yX12_byteAt
theorem wi_591 : ww_591 ∈ mj_tb := mj_t8 (i := 150) rfl rfl
abbrev ww_592 : Cond := .code yX12_cheapest cX12_cheapest 5 (some .int)
theorem wi_592 : ww_592 ∈ mj_tb := mj_t8 (i := 36) rfl rfl
abbrev ww_593 : Cond := .instanceMethod yX12_cheapest
theorem wi_593 : ww_593 ∈ mj_tb := mj_t8 (i := 34) rfl rfl
abbrev ww_594 : Cond := .selects RX12 yX12_cheapest yX12_cheapest
theorem wi_594 : ww_594 ∈ mj_tb := mj_t8 (i := 35) rfl rfl
abbrev ww_595 : Cond := .code yX12_contract cX12_contract 3 (some .int)
theorem wi_595 : ww_595 ∈ mj_tb := mj_t7 (i := 201) rfl rfl
abbrev ww_596 : Cond := .instanceMethod yX12_contract
theorem wi_596 : ww_596 ∈ mj_tb := mj_t7 (i := 199) rfl rfl
abbrev ww_597 : Cond := .selects RX12 yX12_contract yX12_contract
theorem wi_597 : ww_597 ∈ mj_tb := mj_t7 (i := 200) rfl rfl
abbrev ww_598 : Cond := .code yX12_contracts cX12_contracts 3 (some .int)
theorem wi_598 : ww_598 ∈ mj_tb := mj_t7 (i := 193) rfl rfl
abbrev ww_599 : Cond := .instanceMethod yX12_contracts
theorem wi_599 : ww_599 ∈ mj_tb := mj_t7 (i := 191) rfl rfl
abbrev ww_600 : Cond := .selects RX12 yX12_contracts yX12_contracts
theorem wi_600 : ww_600 ∈ mj_tb := mj_t7 (i := 192) rfl rfl
abbrev ww_601 : Cond := .code yX12_count cX12_count 2 (some .int)
theorem wi_601 : ww_601 ∈ mj_tb := mj_t8 (i := 219) rfl rfl
abbrev ww_602 : Cond := .instanceMethod yX12_count
theorem wi_602 : ww_602 ∈ mj_tb := mj_t8 (i := 217) rfl rfl
abbrev ww_603 : Cond := .selects RX12 yX12_count yX12_count
theorem wi_603 : ww_603 ∈ mj_tb := mj_t8 (i := 218) rfl rfl
abbrev ww_604 : Cond := .code yX12_drawn cX12_drawn 3 (some .int)
theorem wi_604 : ww_604 ∈ mj_tb := mj_t8 (i := 159) rfl rfl
abbrev ww_605 : Cond := .instanceMethod yX12_drawn
theorem wi_605 : ww_605 ∈ mj_tb := mj_t8 (i := 157) rfl rfl
abbrev ww_606 : Cond := .selects RX12 yX12_drawn yX12_drawn
theorem wi_606 : ww_606 ∈ mj_tb := mj_t8 (i := 158) rfl rfl
abbrev ww_607 : Cond := .code yX12_droughts cX12_droughts 3 (some .int)
theorem wi_607 : ww_607 ∈ mj_tb := mj_t8 (i := 32) rfl rfl
abbrev ww_608 : Cond := .instanceMethod yX12_droughts
theorem wi_608 : ww_608 ∈ mj_tb := mj_t8 (i := 30) rfl rfl
abbrev ww_609 : Cond := .selects RX12 yX12_droughts yX12_droughts
theorem wi_609 : ww_609 ∈ mj_tb := mj_t8 (i := 31) rfl rfl
abbrev ww_610 : Cond := .code yX12_end cX12_end 2 (some .boolean)
theorem wi_610 : ww_610 ∈ mj_tb := mj_t6 (i := 94) rfl rfl
abbrev ww_611 : Cond := .instanceMethod yX12_end
theorem wi_611 : ww_611 ∈ mj_tb := mj_t6 (i := 92) rfl rfl
abbrev ww_612 : Cond := .selects RX12 yX12_end yX12_end
theorem wi_612 : ww_612 ∈ mj_tb := mj_t6 (i := 93) rfl rfl
abbrev ww_613 : Cond := .code yX12_enough cX12_enough 7 (some .int)
theorem wi_613 : ww_613 ∈ mj_tb := mj_t8 (i := 105) rfl rfl
abbrev ww_614 : Cond := .instanceMethod yX12_enough
theorem wi_614 : ww_614 ∈ mj_tb := mj_t8 (i := 103) rfl rfl
abbrev ww_615 : Cond := .selects RX12 yX12_enough yX12_enough
theorem wi_615 : ww_615 ∈ mj_tb := mj_t8 (i := 104) rfl rfl
abbrev ww_616 : Cond := .code yX12_fault cX12_fault 1 (some .int)
theorem wi_616 : ww_616 ∈ mj_tb := mj_t7 (i := 146) rfl rfl
abbrev ww_617 : Cond := .instanceMethod yX12_fault
theorem wi_617 : ww_617 ∈ mj_tb := mj_t7 (i := 144) rfl rfl
abbrev ww_618 : Cond := .selects RX12 yX12_fault yX12_fault
theorem wi_618 : ww_618 ∈ mj_tb := mj_t7 (i := 145) rfl rfl
abbrev ww_619 : Cond := .code yX12_feed cX12_feed 6 (some .int)
theorem wi_619 : ww_619 ∈ mj_tb := mj_t6 (i := 85) rfl rfl
abbrev ww_620 : Cond := .instanceMethod yX12_feed
theorem wi_620 : ww_620 ∈ mj_tb := mj_t6 (i := 83) rfl rfl
abbrev ww_621 : Cond := .selects RX12 yX12_feed yX12_feed
theorem wi_621 : ww_621 ∈ mj_tb := mj_t6 (i := 84) rfl rfl
abbrev ww_622 : Cond := .code yX12_four cX12_four 3 none
theorem wi_622 : ww_622 ∈ mj_tb := mj_t6 (i := 90) rfl rfl
abbrev ww_623 : Cond := .instanceMethod yX12_four
theorem wi_623 : ww_623 ∈ mj_tb := mj_t6 (i := 88) rfl rfl
abbrev ww_624 : Cond := .selects RX12 yX12_four yX12_four
theorem wi_624 : ww_624 ∈ mj_tb := mj_q4 (i := 11) rfl rfl rfl
abbrev ww_625 : Cond := .code yX12_greatest cX12_greatest 4 (some .int)
theorem wi_625 : ww_625 ∈ mj_tb := mj_t8 (i := 130) rfl rfl
abbrev ww_626 : Cond := .instanceMethod yX12_greatest
theorem wi_626 : ww_626 ∈ mj_tb := mj_t8 (i := 128) rfl rfl
abbrev ww_627 : Cond := .selects RX12 yX12_greatest yX12_greatest
theorem wi_627 : ww_627 ∈ mj_tb := mj_t8 (i := 129) rfl rfl
abbrev ww_628 : Cond := .code yX12_has cX12_has 2 (some .int)
theorem wi_628 : ww_628 ∈ mj_tb := mj_t8 (i := 69) rfl rfl
abbrev ww_629 : Cond := .instanceMethod yX12_has
theorem wi_629 : ww_629 ∈ mj_tb := mj_t8 (i := 67) rfl rfl
abbrev ww_630 : Cond := .selects RX12 yX12_has yX12_has
theorem wi_630 : ww_630 ∈ mj_tb := mj_t8 (i := 68) rfl rfl
abbrev ww_631 : Cond := .code yX12_image cX12_image 3 (some .boolean)
theorem wi_631 : ww_631 ∈ mj_tb := mj_t8 (i := 211) rfl rfl
abbrev ww_632 : Cond := .instanceMethod yX12_image
theorem wi_632 : ww_632 ∈ mj_tb := mj_t8 (i := 209) rfl rfl
abbrev ww_633 : Cond := .selects RX12 yX12_image yX12_image
theorem wi_633 : ww_633 ∈ mj_tb := mj_t8 (i := 210) rfl rfl
abbrev ww_634 : Cond := .code yX12_init cX12_init 1 none
theorem wi_634 : ww_634 ∈ mj_tb := mj_t6 (i := 98) rfl rfl
abbrev ww_635 : Cond := .instanceMethod yX12_init
theorem wi_635 : ww_635 ∈ mj_tb := mj_t6 (i := 97) rfl rfl
abbrev ww_636 : Cond := .code yX12_isIn cX12_isIn 3 (some .boolean)
theorem wi_636 : ww_636 ∈ mj_tb := mj_t7 (i := 123) rfl rfl
abbrev ww_637 : Cond := .static yX12_isIn
theorem wi_637 : ww_637 ∈ mj_tb := mj_t7 (i := 122) rfl rfl
abbrev ww_638 : Cond := .code yX12_isMonth cX12_isMonth 1 (some .boolean)
theorem wi_638 : ww_638 ∈ mj_tb := mj_t7 (i := 169) rfl rfl
abbrev ww_639 : Cond := .static yX12_isMonth
theorem wi_639 : ww_639 ∈ mj_tb := mj_t7 (i := 168) rfl rfl
abbrev ww_640 : Cond := .code yX12_isSign cX12_isSign 2 (some .boolean)
theorem wi_640 : ww_640 ∈ mj_tb := mj_t7 (i := 142) rfl rfl
abbrev ww_641 : Cond := .instanceMethod yX12_isSign
theorem wi_641 : ww_641 ∈ mj_tb := mj_t7 (i := 141) rfl rfl
abbrev ww_642 : Cond := .selects RX12 yX12_isSign yX12_isSign
theorem wi_642 : ww_642 ∈ mj_tb := mj_q5 (i := 9) rfl rfl rfl
abbrev ww_643 : Cond := .code yX12_isTown cX12_isTown 2 (some .boolean)
theorem wi_643 : ww_643 ∈ mj_tb := mj_t7 (i := 154) rfl rfl
abbrev ww_644 : Cond := .instanceMethod yX12_isTown
theorem wi_644 : ww_644 ∈ mj_tb := mj_t7 (i := 153) rfl rfl
abbrev ww_645 : Cond := .selects RX12 yX12_isTown yX12_isTown
theorem wi_645 : ww_645 ∈ mj_tb := mj_q5 (i := 10) rfl rfl rfl
abbrev ww_646 : Cond := .code yX12_isWord cX12_isWord 3 (some .boolean)
theorem wi_646 : ww_646 ∈ mj_tb := mj_t7 (i := 100) rfl rfl
abbrev ww_647 : Cond := .instanceMethod yX12_isWord
theorem wi_647 : ww_647 ∈ mj_tb := mj_t7 (i := 99) rfl rfl
abbrev ww_648 : Cond := .selects RX12 yX12_isWord yX12_isWord
theorem wi_648 : ww_648 ∈ mj_tb := mj_q5 (i := 0) rfl rfl rfl
abbrev ww_649 : Cond := .code yX12_leafOf cX12_leafOf 1 (some .int)
theorem wi_649 : ww_649 ∈ mj_tb := mj_t8 (i := 195) rfl rfl
abbrev ww_650 : Cond := .instanceMethod yX12_leafOf
theorem wi_650 : ww_650 ∈ mj_tb := mj_t8 (i := 194) rfl rfl
abbrev ww_651 : Cond := .selects RX12 yX12_leafOf yX12_leafOf
theorem wi_651 : ww_651 ∈ mj_tb := mj_q7 (i := 13) rfl rfl rfl
abbrev ww_652 : Cond := .code yX12_leak cX12_leak 3 (some .int)
theorem wi_652 : ww_652 ∈ mj_tb := mj_t8 (i := 97) rfl rfl
abbrev ww_653 : Cond := .instanceMethod yX12_leak
theorem wi_653 : ww_653 ∈ mj_tb := mj_t8 (i := 95) rfl rfl
abbrev ww_654 : Cond := .selects RX12 yX12_leak yX12_leak
theorem wi_654 : ww_654 ∈ mj_tb := mj_t8 (i := 96) rfl rfl
abbrev ww_655 : Cond := .code yX12_leaks cX12_leaks 7 (some .int)
theorem wi_655 : ww_655 ∈ mj_tb := mj_t8 (i := 77) rfl rfl
abbrev ww_656 : Cond := .instanceMethod yX12_leaks
theorem wi_656 : ww_656 ∈ mj_tb := mj_t8 (i := 75) rfl rfl
abbrev ww_657 : Cond := .selects RX12 yX12_leaks yX12_leaks
theorem wi_657 : ww_657 ∈ mj_tb := mj_t8 (i := 76) rfl rfl
abbrev ww_658 : Cond := .code yX12_let cX12_let 3 (some .int)
theorem wi_658 : ww_658 ∈ mj_tb := mj_t8 (i := 28) rfl rfl
abbrev ww_659 : Cond := .instanceMethod yX12_let
theorem wi_659 : ww_659 ∈ mj_tb := mj_t8 (i := 26) rfl rfl
abbrev ww_660 : Cond := .selects RX12 yX12_let yX12_let
theorem wi_660 : ww_660 ∈ mj_tb := mj_t8 (i := 27) rfl rfl
abbrev ww_661 : Cond := .code yX12_must cX12_must 7 (some .int)
theorem wi_661 : ww_661 ∈ mj_tb := mj_t8 (i := 167) rfl rfl
abbrev ww_662 : Cond := .instanceMethod yX12_must
theorem wi_662 : ww_662 ∈ mj_tb := mj_t8 (i := 165) rfl rfl
abbrev ww_663 : Cond := .selects RX12 yX12_must yX12_must
theorem wi_663 : ww_663 ∈ mj_tb := mj_t8 (i := 166) rfl rfl
abbrev ww_664 : Cond := .code yX12_next cX12_next 4 none
theorem wi_664 : ww_664 ∈ mj_tb := mj_t7 (i := 82) rfl rfl
abbrev ww_665 : Cond := .instanceMethod yX12_next
theorem wi_665 : ww_665 ∈ mj_tb := mj_t7 (i := 81) rfl rfl
abbrev ww_666 : Cond := .selects RX12 yX12_next yX12_next
theorem wi_666 : ww_666 ∈ mj_tb := mj_q4 (i := 13) rfl rfl rfl
abbrev ww_667 : Cond := .code yX12_offer cX12_offer 5 (some .boolean)
theorem wi_667 : ww_667 ∈ mj_tb := mj_t7 (i := 181) rfl rfl
abbrev ww_668 : Cond := .instanceMethod yX12_offer
theorem wi_668 : ww_668 ∈ mj_tb := mj_t7 (i := 179) rfl rfl
abbrev ww_669 : Cond := .selects RX12 yX12_offer yX12_offer
theorem wi_669 : ww_669 ∈ mj_tb := mj_t7 (i := 180) rfl rfl
abbrev ww_670 : Cond := .code yX12_on cX12_on 4 (some .int)
theorem wi_670 : ww_670 ∈ mj_tb := mj_t7 (i := 213) rfl rfl
abbrev ww_671 : Cond := .instanceMethod yX12_on
theorem wi_671 : ww_671 ∈ mj_tb := mj_t7 (i := 211) rfl rfl
abbrev ww_672 : Cond := .selects RX12 yX12_on yX12_on
theorem wi_672 : ww_672 ∈ mj_tb := mj_t7 (i := 212) rfl rfl
abbrev ww_673 : Cond := .code yX12_operand cX12_operand 5 (some .boolean)
theorem wi_673 : ww_673 ∈ mj_tb := mj_t8 (i := 191) rfl rfl
abbrev ww_674 : Cond := .instanceMethod yX12_operand
theorem wi_674 : ww_674 ∈ mj_tb := mj_t8 (i := 190) rfl rfl
abbrev ww_675 : Cond := .selects RX12 yX12_operand yX12_operand
theorem wi_675 : ww_675 ∈ mj_tb := mj_q7 (i := 12) rfl rfl rfl
abbrev ww_676 : Cond := .code yX12_peek cX12_peek 1 (some .int)
theorem wi_676 : ww_676 ∈ mj_tb := mj_t7 (i := 86) rfl rfl
abbrev ww_677 : Cond := .instanceMethod yX12_peek
theorem wi_677 : ww_677 ∈ mj_tb := mj_t7 (i := 85) rfl rfl
abbrev ww_678 : Cond := .selects RX12 yX12_peek yX12_peek
theorem wi_678 : ww_678 ∈ mj_tb := mj_q4 (i := 14) rfl rfl rfl
abbrev ww_679 : Cond := .code yX12_plain cX12_plain 2 (some .int)
theorem wi_679 : ww_679 ∈ mj_tb := mj_t7 (i := 74) rfl rfl
abbrev ww_680 : Cond := .instanceMethod yX12_plain
theorem wi_680 : ww_680 ∈ mj_tb := mj_t7 (i := 72) rfl rfl
abbrev ww_681 : Cond := .selects RX12 yX12_plain yX12_plain
theorem wi_681 : ww_681 ∈ mj_tb := mj_t7 (i := 73) rfl rfl
abbrev ww_682 : Cond := .code yX12_plan cX12_plan 2 (some .int)
theorem wi_682 : ww_682 ∈ mj_tb := mj_t8 (i := 53) rfl rfl
abbrev ww_683 : Cond := .instanceMethod yX12_plan
theorem wi_683 : ww_683 ∈ mj_tb := mj_t8 (i := 51) rfl rfl
abbrev ww_684 : Cond := .selects RX12 yX12_plan yX12_plan
theorem wi_684 : ww_684 ∈ mj_tb := mj_t8 (i := 52) rfl rfl
abbrev ww_685 : Cond := .code yX12_price cX12_price 2 (some .int)
theorem wi_685 : ww_685 ∈ mj_tb := mj_t8 (i := 73) rfl rfl
abbrev ww_686 : Cond := .instanceMethod yX12_price
theorem wi_686 : ww_686 ∈ mj_tb := mj_t8 (i := 71) rfl rfl
abbrev ww_687 : Cond := .selects RX12 yX12_price yX12_price
theorem wi_687 : ww_687 ∈ mj_tb := mj_t8 (i := 72) rfl rfl
abbrev ww_688 : Cond := .code yX12_restore cX12_restore 3 (some .boolean)
theorem wi_688 : ww_688 ∈ mj_tb := mj_t8 (i := 215) rfl rfl
abbrev ww_689 : Cond := .instanceMethod yX12_restore
theorem wi_689 : ww_689 ∈ mj_tb := mj_t8 (i := 213) rfl rfl
abbrev ww_690 : Cond := .selects RX12 yX12_restore yX12_restore
theorem wi_690 : ww_690 ∈ mj_tb := mj_t8 (i := 214) rfl rfl
abbrev ww_691 : Cond := .code yX12_rounds cX12_rounds 9 (some .int)
theorem wi_691 : ww_691 ∈ mj_tb := mj_t8 (i := 61) rfl rfl
abbrev ww_692 : Cond := .instanceMethod yX12_rounds
theorem wi_692 : ww_692 ∈ mj_tb := mj_t8 (i := 59) rfl rfl
abbrev ww_693 : Cond := .selects RX12 yX12_rounds yX12_rounds
theorem wi_693 : ww_693 ∈ mj_tb := mj_t8 (i := 60) rfl rfl
abbrev ww_694 : Cond := .code yX12_said cX12_said 4 (some .int)
theorem wi_694 : ww_694 ∈ mj_tb := mj_t8 (i := 199) rfl rfl
abbrev ww_695 : Cond := .instanceMethod yX12_said
theorem wi_695 : ww_695 ∈ mj_tb := mj_t8 (i := 197) rfl rfl
abbrev ww_696 : Cond := .selects RX12 yX12_said yX12_said
theorem wi_696 : ww_696 ∈ mj_tb := mj_t8 (i := 198) rfl rfl
abbrev ww_697 : Cond := .code yX12_sentence cX12_sentence 3 (some .int)
theorem wi_697 : ww_697 ∈ mj_tb := mj_t8 (i := 171) rfl rfl
abbrev ww_698 : Cond := .instanceMethod yX12_sentence
theorem wi_698 : ww_698 ∈ mj_tb := mj_t8 (i := 169) rfl rfl
abbrev ww_699 : Cond := .selects RX12 yX12_sentence yX12_sentence
theorem wi_699 : ww_699 ∈ mj_tb := mj_t8 (i := 170) rfl rfl
abbrev ww_700 : Cond := .code yX12_shores cX12_shores 6 (some .int)
theorem wi_700 : ww_700 ∈ mj_tb := mj_t8 (i := 163) rfl rfl
abbrev ww_701 : Cond := .instanceMethod yX12_shores
theorem wi_701 : ww_701 ∈ mj_tb := mj_t8 (i := 161) rfl rfl
abbrev ww_702 : Cond := .selects RX12 yX12_shores yX12_shores
theorem wi_702 : ww_702 ∈ mj_tb := mj_t8 (i := 162) rfl rfl
abbrev ww_703 : Cond := .code yX12_shoresOf cX12_shoresOf 3 (some .int)
theorem wi_703 : ww_703 ∈ mj_tb := mj_t8 (i := 109) rfl rfl
abbrev ww_704 : Cond := .instanceMethod yX12_shoresOf
theorem wi_704 : ww_704 ∈ mj_tb := mj_t8 (i := 107) rfl rfl
abbrev ww_705 : Cond := .selects RX12 yX12_shoresOf yX12_shoresOf
theorem wi_705 : ww_705 ∈ mj_tb := mj_t8 (i := 108) rfl rfl
abbrev ww_706 : Cond := .code yX12_take cX12_take 2 (some .boolean)
theorem wi_706 : ww_706 ∈ mj_tb := mj_t8 (i := 57) rfl rfl
abbrev ww_707 : Cond := .instanceMethod yX12_take
theorem wi_707 : ww_707 ∈ mj_tb := mj_t8 (i := 55) rfl rfl
abbrev ww_708 : Cond := .selects RX12 yX12_take yX12_take
theorem wi_708 : ww_708 ∈ mj_tb := mj_t8 (i := 56) rfl rfl
abbrev ww_709 : Cond := .code yX12_taken cX12_taken 2 none
theorem wi_709 : ww_709 ∈ mj_tb := mj_t7 (i := 78) rfl rfl
abbrev ww_710 : Cond := .instanceMethod yX12_taken
theorem wi_710 : ww_710 ∈ mj_tb := mj_t7 (i := 77) rfl rfl
abbrev ww_711 : Cond := .selects RX12 yX12_taken yX12_taken
theorem wi_711 : ww_711 ∈ mj_tb := mj_q4 (i := 12) rfl rfl rfl
abbrev ww_712 : Cond := .code yX12_thirsty cX12_thirsty 3 (some .int)
theorem wi_712 : ww_712 ∈ mj_tb := mj_t8 (i := 122) rfl rfl
abbrev ww_713 : Cond := .instanceMethod yX12_thirsty
theorem wi_713 : ww_713 ∈ mj_tb := mj_t8 (i := 120) rfl rfl
abbrev ww_714 : Cond := .selects RX12 yX12_thirsty yX12_thirsty
theorem wi_714 : ww_714 ∈ mj_tb := mj_t8 (i := 121) rfl rfl
abbrev ww_715 : Cond := .code yX12_thrown cX12_thrown 1 (some .int)
theorem wi_715 : ww_715 ∈ mj_tb := mj_t6 (i := 81) rfl rfl
abbrev ww_716 : Cond := .instanceMethod yX12_thrown
theorem wi_716 : ww_716 ∈ mj_tb := mj_t6 (i := 79) rfl rfl
abbrev ww_717 : Cond := .selects RX12 yX12_thrown yX12_thrown
theorem wi_717 : ww_717 ∈ mj_tb := mj_t6 (i := 80) rfl rfl
abbrev ww_718 : Cond := .code yX12_throwsIf cX12_throwsIf 2 (some .boolean)
theorem wi_718 : ww_718 ∈ mj_tb := mj_t7 (i := 158) rfl rfl
abbrev ww_719 : Cond := .instanceMethod yX12_throwsIf
theorem wi_719 : ww_719 ∈ mj_tb := mj_t7 (i := 157) rfl rfl
abbrev ww_720 : Cond := .selects RX12 yX12_throwsIf yX12_throwsIf
theorem wi_720 : ww_720 ∈ mj_tb := mj_q5 (i := 11) rfl rfl rfl
abbrev ww_721 : Cond := .code yX12_told cX12_told 3 (some .int)
theorem wi_721 : ww_721 ∈ mj_tb := mj_t7 (i := 150) rfl rfl
abbrev ww_722 : Cond := .instanceMethod yX12_told
theorem wi_722 : ww_722 ∈ mj_tb := mj_t7 (i := 148) rfl rfl
abbrev ww_723 : Cond := .selects RX12 yX12_told yX12_told
theorem wi_723 : ww_723 ∈ mj_tb := mj_t7 (i := 149) rfl rfl
abbrev ww_724 : Cond := .code yX12_town cX12_town 3 (some .int)
theorem wi_724 : ww_724 ∈ mj_tb := mj_t8 (i := 24) rfl rfl
abbrev ww_725 : Cond := .instanceMethod yX12_town
theorem wi_725 : ww_725 ∈ mj_tb := mj_t8 (i := 22) rfl rfl
abbrev ww_726 : Cond := .selects RX12 yX12_town yX12_town
theorem wi_726 : ww_726 ∈ mj_tb := mj_t8 (i := 23) rfl rfl
abbrev ww_727 : Cond := .code yX12_undo cX12_undo 1 (some .int)
theorem wi_727 : ww_727 ∈ mj_tb := mj_t7 (i := 189) rfl rfl
abbrev ww_728 : Cond := .instanceMethod yX12_undo
theorem wi_728 : ww_728 ∈ mj_tb := mj_t7 (i := 187) rfl rfl
abbrev ww_729 : Cond := .selects RX12 yX12_undo yX12_undo
theorem wi_729 : ww_729 ∈ mj_tb := mj_t7 (i := 188) rfl rfl
abbrev ww_730 : Cond := .code yX12_water cX12_water 2 (some .int)
theorem wi_730 : ww_730 ∈ mj_tb := mj_t7 (i := 177) rfl rfl
abbrev ww_731 : Cond := .instanceMethod yX12_water
theorem wi_731 : ww_731 ∈ mj_tb := mj_t7 (i := 175) rfl rfl
abbrev ww_732 : Cond := .selects RX12 yX12_water yX12_water
theorem wi_732 : ww_732 ∈ mj_tb := mj_t7 (i := 176) rfl rfl
abbrev ww_733 : Cond := .code yX12_wettest cX12_wettest 4 (some .int)
theorem wi_733 : ww_733 ∈ mj_tb := mj_t8 (i := 101) rfl rfl
abbrev ww_734 : Cond := .instanceMethod yX12_wettest
theorem wi_734 : ww_734 ∈ mj_tb := mj_t8 (i := 99) rfl rfl
abbrev ww_735 : Cond := .selects RX12 yX12_wettest yX12_wettest
theorem wi_735 : ww_735 ∈ mj_tb := mj_t8 (i := 100) rfl rfl
abbrev ww_736 : Cond := .code yX12_worth cX12_worth 5 (some .int)
theorem wi_736 : ww_736 ∈ mj_tb := mj_t8 (i := 155) rfl rfl
abbrev ww_737 : Cond := .instanceMethod yX12_worth
theorem wi_737 : ww_737 ∈ mj_tb := mj_t8 (i := 153) rfl rfl
abbrev ww_738 : Cond := .selects RX12 yX12_worth yX12_worth
theorem wi_738 : ww_738 ∈ mj_tb := mj_t8 (i := 154) rfl rfl
abbrev ww_739 : Cond := .code yX12_write cX12_write 2 (some .int)
theorem wi_739 : ww_739 ∈ mj_tb := mj_t8 (i := 134) rfl rfl
abbrev ww_740 : Cond := .instanceMethod yX12_write
theorem wi_740 : ww_740 ∈ mj_tb := mj_t8 (i := 132) rfl rfl
abbrev ww_741 : Cond := .selects RX12 yX12_write yX12_write
theorem wi_741 : ww_741 ∈ mj_tb := mj_t8 (i := 133) rfl rfl
abbrev ww_742 : Cond := .code yX12_year cX12_year 4 (some .int)
theorem wi_742 : ww_742 ∈ mj_tb := mj_t8 (i := 20) rfl rfl
abbrev ww_743 : Cond := .instanceMethod yX12_year
theorem wi_743 : ww_743 ∈ mj_tb := mj_t8 (i := 18) rfl rfl
abbrev ww_744 : Cond := .selects RX12 yX12_year yX12_year
theorem wi_744 : ww_744 ∈ mj_tb := mj_t8 (i := 19) rfl rfl
abbrev ww_745 : Cond := .classLink RL 8 RX11
theorem wi_745 : ww_745 ∈ mj_tb := mj_t1 (i := 21) rfl rfl
abbrev ww_746 : Cond := .instantiable RX11 14
theorem wi_746 : ww_746 ∈ mj_tb := mj_t1 (i := 22) rfl rfl
abbrev ww_747 : Cond := .methodLink RL 15 yX11_init
theorem wi_747 : ww_747 ∈ mj_tb := mj_t1 (i := 23) rfl rfl
abbrev ww_748 : Cond := .classLink RL 16 RX12
theorem wi_748 : ww_748 ∈ mj_tb := mj_t6 (i := 95) rfl rfl
abbrev ww_749 : Cond := .instantiable RX12 62
theorem wi_749 : ww_749 ∈ mj_tb := mj_t6 (i := 89) rfl rfl
abbrev ww_750 : Cond := .methodLink RL 18 yX12_init
theorem wi_750 : ww_750 ∈ mj_tb := mj_t6 (i := 96) rfl rfl
abbrev ww_751 : Cond := .methodLink RL 19 yX11_feed
theorem wi_751 : ww_751 ∈ mj_tb := mj_t3 (i := 21) rfl rfl
abbrev ww_752 : Cond := .methodLink RL 23 yX12_feed
theorem wi_752 : ww_752 ∈ mj_tb := mj_t6 (i := 82) rfl rfl
abbrev ww_753 : Cond := .methodLink RL 24 yX11_end
theorem wi_753 : ww_753 ∈ mj_tb := mj_t3 (i := 33) rfl rfl
abbrev ww_754 : Cond := .methodLink RL 28 yX12_end
theorem wi_754 : ww_754 ∈ mj_tb := mj_t6 (i := 91) rfl rfl
abbrev ww_755 : Cond := .methodLink RL 29 yX11_plain
theorem wi_755 : ww_755 ∈ mj_tb := mj_t3 (i := 37) rfl rfl
abbrev ww_756 : Cond := .methodLink RL 33 yX12_plain
theorem wi_756 : ww_756 ∈ mj_tb := mj_t7 (i := 71) rfl rfl
abbrev ww_757 : Cond := .methodLink RL 34 yX11_fault
theorem wi_757 : ww_757 ∈ mj_tb := mj_t3 (i := 192) rfl rfl
abbrev ww_758 : Cond := .methodLink RL 37 yX12_fault
theorem wi_758 : ww_758 ∈ mj_tb := mj_t7 (i := 143) rfl rfl
abbrev ww_759 : Cond := .methodLink RL 43 yX12_told
theorem wi_759 : ww_759 ∈ mj_tb := mj_t7 (i := 147) rfl rfl
abbrev ww_760 : Cond := .methodLink RL 44 yX12_thrown
theorem wi_760 : ww_760 ∈ mj_tb := mj_t6 (i := 78) rfl rfl
abbrev ww_761 : Cond := .methodLink RL 47 yX11_bid
theorem wi_761 : ww_761 ∈ mj_tb := mj_t3 (i := 196) rfl rfl
abbrev ww_762 : Cond := .methodLink RL 50 yX12_bid
theorem wi_762 : ww_762 ∈ mj_tb := mj_t7 (i := 163) rfl rfl
abbrev ww_763 : Cond := .methodLink RL 51 yX11_offer
theorem wi_763 : ww_763 ∈ mj_tb := mj_t3 (i := 207) rfl rfl
abbrev ww_764 : Cond := .methodLink RL 55 yX12_offer
theorem wi_764 : ww_764 ∈ mj_tb := mj_t7 (i := 178) rfl rfl
abbrev ww_765 : Cond := .methodLink RL 56 yX11_undo
theorem wi_765 : ww_765 ∈ mj_tb := mj_t3 (i := 219) rfl rfl
abbrev ww_766 : Cond := .methodLink RL 59 yX12_undo
theorem wi_766 : ww_766 ∈ mj_tb := mj_t7 (i := 186) rfl rfl
abbrev ww_767 : Cond := .methodLink RL 60 yX11_water
theorem wi_767 : ww_767 ∈ mj_tb := mj_t3 (i := 228) rfl rfl
abbrev ww_768 : Cond := .methodLink RL 64 yX12_water
theorem wi_768 : ww_768 ∈ mj_tb := mj_t7 (i := 174) rfl rfl
abbrev ww_769 : Cond := .methodLink RL 65 yX11_contracts
theorem wi_769 : ww_769 ∈ mj_tb := mj_t3 (i := 232) rfl rfl
abbrev ww_770 : Cond := .methodLink RL 68 yX12_contracts
theorem wi_770 : ww_770 ∈ mj_tb := mj_t7 (i := 190) rfl rfl
abbrev ww_771 : Cond := .methodLink RL 69 yX11_contract
theorem wi_771 : ww_771 ∈ mj_tb := mj_t4 (i := 28) rfl rfl
abbrev ww_772 : Cond := .methodLink RL 72 yX12_contract
theorem wi_772 : ww_772 ∈ mj_tb := mj_t7 (i := 198) rfl rfl
abbrev ww_773 : Cond := .methodLink RL 73 yX11_begin
theorem wi_773 : ww_773 ∈ mj_tb := mj_t4 (i := 33) rfl rfl
abbrev ww_774 : Cond := .methodLink RL 77 yX12_begin
theorem wi_774 : ww_774 ∈ mj_tb := mj_t7 (i := 202) rfl rfl
abbrev ww_775 : Cond := .methodLink RL 78 yX11_on
theorem wi_775 : ww_775 ∈ mj_tb := mj_t4 (i := 41) rfl rfl
abbrev ww_776 : Cond := .methodLink RL 81 yX12_on
theorem wi_776 : ww_776 ∈ mj_tb := mj_t7 (i := 210) rfl rfl
abbrev ww_777 : Cond := .methodLink RL 82 yX11_year
theorem wi_777 : ww_777 ∈ mj_tb := mj_t4 (i := 109) rfl rfl
abbrev ww_778 : Cond := .methodLink RL 85 yX12_year
theorem wi_778 : ww_778 ∈ mj_tb := mj_t8 (i := 17) rfl rfl
abbrev ww_779 : Cond := .methodLink RL 86 yX11_town
theorem wi_779 : ww_779 ∈ mj_tb := mj_t4 (i := 121) rfl rfl
abbrev ww_780 : Cond := .methodLink RL 89 yX12_town
theorem wi_780 : ww_780 ∈ mj_tb := mj_t8 (i := 21) rfl rfl
abbrev ww_781 : Cond := .methodLink RL 90 yX11_let
theorem wi_781 : ww_781 ∈ mj_tb := mj_t4 (i := 125) rfl rfl
abbrev ww_782 : Cond := .methodLink RL 93 yX12_let
theorem wi_782 : ww_782 ∈ mj_tb := mj_t8 (i := 25) rfl rfl
abbrev ww_783 : Cond := .methodLink RL 94 yX11_droughts
theorem wi_783 : ww_783 ∈ mj_tb := mj_t4 (i := 129) rfl rfl
abbrev ww_784 : Cond := .methodLink RL 97 yX12_droughts
theorem wi_784 : ww_784 ∈ mj_tb := mj_t8 (i := 29) rfl rfl
abbrev ww_785 : Cond := .methodLink RL 98 yX11_cheapest
theorem wi_785 : ww_785 ∈ mj_tb := mj_t4 (i := 133) rfl rfl
abbrev ww_786 : Cond := .methodLink RL 101 yX12_cheapest
theorem wi_786 : ww_786 ∈ mj_tb := mj_t8 (i := 33) rfl rfl
abbrev ww_787 : Cond := .methodLink RL 102 yX11_plan
theorem wi_787 : ww_787 ∈ mj_tb := mj_t4 (i := 210) rfl rfl
abbrev ww_788 : Cond := .methodLink RL 105 yX12_plan
theorem wi_788 : ww_788 ∈ mj_tb := mj_t8 (i := 50) rfl rfl
abbrev ww_789 : Cond := .methodLink RL 106 yX11_take
theorem wi_789 : ww_789 ∈ mj_tb := mj_t4 (i := 214) rfl rfl
abbrev ww_790 : Cond := .methodLink RL 109 yX12_take
theorem wi_790 : ww_790 ∈ mj_tb := mj_t8 (i := 54) rfl rfl
abbrev ww_791 : Cond := .methodLink RL 110 yX11_rounds
theorem wi_791 : ww_791 ∈ mj_tb := mj_t4 (i := 219) rfl rfl
abbrev ww_792 : Cond := .methodLink RL 113 yX12_rounds
theorem wi_792 : ww_792 ∈ mj_tb := mj_t8 (i := 58) rfl rfl
abbrev ww_793 : Cond := .methodLink RL 114 yX11_has
theorem wi_793 : ww_793 ∈ mj_tb := mj_t4 (i := 239) rfl rfl
abbrev ww_794 : Cond := .methodLink RL 117 yX12_has
theorem wi_794 : ww_794 ∈ mj_tb := mj_t8 (i := 66) rfl rfl
abbrev ww_795 : Cond := .methodLink RL 118 yX11_price
theorem wi_795 : ww_795 ∈ mj_tb := mj_t5 (i := 3) rfl rfl
abbrev ww_796 : Cond := .methodLink RL 121 yX12_price
theorem wi_796 : ww_796 ∈ mj_tb := mj_t8 (i := 70) rfl rfl
abbrev ww_797 : Cond := .methodLink RL 122 yX11_leaks
theorem wi_797 : ww_797 ∈ mj_tb := mj_t5 (i := 7) rfl rfl
abbrev ww_798 : Cond := .methodLink RL 125 yX12_leaks
theorem wi_798 : ww_798 ∈ mj_tb := mj_t8 (i := 74) rfl rfl
abbrev ww_799 : Cond := .methodLink RL 126 yX11_leak
theorem wi_799 : ww_799 ∈ mj_tb := mj_t5 (i := 43) rfl rfl
abbrev ww_800 : Cond := .methodLink RL 129 yX12_leak
theorem wi_800 : ww_800 ∈ mj_tb := mj_t8 (i := 94) rfl rfl
abbrev ww_801 : Cond := .methodLink RL 130 yX11_wettest
theorem wi_801 : ww_801 ∈ mj_tb := mj_t5 (i := 47) rfl rfl
abbrev ww_802 : Cond := .methodLink RL 133 yX12_wettest
theorem wi_802 : ww_802 ∈ mj_tb := mj_t8 (i := 98) rfl rfl
abbrev ww_803 : Cond := .methodLink RL 134 yX11_enough
theorem wi_803 : ww_803 ∈ mj_tb := mj_t5 (i := 51) rfl rfl
abbrev ww_804 : Cond := .methodLink RL 137 yX12_enough
theorem wi_804 : ww_804 ∈ mj_tb := mj_t8 (i := 102) rfl rfl
abbrev ww_805 : Cond := .methodLink RL 138 yX11_shoresOf
theorem wi_805 : ww_805 ∈ mj_tb := mj_t5 (i := 60) rfl rfl
abbrev ww_806 : Cond := .methodLink RL 141 yX12_shoresOf
theorem wi_806 : ww_806 ∈ mj_tb := mj_t8 (i := 106) rfl rfl
abbrev ww_807 : Cond := .methodLink RL 142 yX11_thirsty
theorem wi_807 : ww_807 ∈ mj_tb := mj_t5 (i := 68) rfl rfl
abbrev ww_808 : Cond := .methodLink RL 145 yX12_thirsty
theorem wi_808 : ww_808 ∈ mj_tb := mj_t8 (i := 119) rfl rfl
abbrev ww_809 : Cond := .methodLink RL 146 yX11_bidsOf
theorem wi_809 : ww_809 ∈ mj_tb := mj_t5 (i := 76) rfl rfl
abbrev ww_810 : Cond := .methodLink RL 149 yX12_bidsOf
theorem wi_810 : ww_810 ∈ mj_tb := mj_t8 (i := 123) rfl rfl
abbrev ww_811 : Cond := .methodLink RL 150 yX11_greatest
theorem wi_811 : ww_811 ∈ mj_tb := mj_t5 (i := 80) rfl rfl
abbrev ww_812 : Cond := .methodLink RL 153 yX12_greatest
theorem wi_812 : ww_812 ∈ mj_tb := mj_t8 (i := 127) rfl rfl
abbrev ww_813 : Cond := .methodLink RL 154 yX11_write
theorem wi_813 : ww_813 ∈ mj_tb := mj_t5 (i := 84) rfl rfl
abbrev ww_814 : Cond := .methodLink RL 157 yX12_write
theorem wi_814 : ww_814 ∈ mj_tb := mj_t8 (i := 131) rfl rfl
abbrev ww_815 : Cond := .methodLink RL 158 yX11_byteAt
theorem wi_815 : ww_815 ∈ mj_tb := mj_t5 (i := 102) rfl rfl
abbrev ww_816 : Cond := .methodLink RL 161 yX12_byteAt
theorem wi_816 : ww_816 ∈ mj_tb := mj_t8 (i := 148) rfl rfl
abbrev ww_817 : Cond := .methodLink RL 162 yX11_worth
theorem wi_817 : ww_817 ∈ mj_tb := mj_t5 (i := 106) rfl rfl
abbrev ww_818 : Cond := .methodLink RL 165 yX12_worth
theorem wi_818 : ww_818 ∈ mj_tb := mj_t8 (i := 152) rfl rfl
abbrev ww_819 : Cond := .methodLink RL 166 yX11_drawn
theorem wi_819 : ww_819 ∈ mj_tb := mj_t5 (i := 115) rfl rfl
abbrev ww_820 : Cond := .methodLink RL 169 yX12_drawn
theorem wi_820 : ww_820 ∈ mj_tb := mj_t8 (i := 156) rfl rfl
abbrev ww_821 : Cond := .methodLink RL 170 yX11_shores
theorem wi_821 : ww_821 ∈ mj_tb := mj_t5 (i := 124) rfl rfl
abbrev ww_822 : Cond := .methodLink RL 174 yX12_shores
theorem wi_822 : ww_822 ∈ mj_tb := mj_t8 (i := 160) rfl rfl
abbrev ww_823 : Cond := .methodLink RL 175 yX11_must
theorem wi_823 : ww_823 ∈ mj_tb := mj_t5 (i := 128) rfl rfl
abbrev ww_824 : Cond := .methodLink RL 178 yX12_must
theorem wi_824 : ww_824 ∈ mj_tb := mj_t8 (i := 164) rfl rfl
abbrev ww_825 : Cond := .methodLink RL 179 yX11_sentence
theorem wi_825 : ww_825 ∈ mj_tb := mj_t5 (i := 137) rfl rfl
abbrev ww_826 : Cond := .methodLink RL 182 yX12_sentence
theorem wi_826 : ww_826 ∈ mj_tb := mj_t8 (i := 168) rfl rfl
abbrev ww_827 : Cond := .methodLink RL 183 yX11_said
theorem wi_827 : ww_827 ∈ mj_tb := mj_t5 (i := 205) rfl rfl
abbrev ww_828 : Cond := .methodLink RL 186 yX12_said
theorem wi_828 : ww_828 ∈ mj_tb := mj_t8 (i := 196) rfl rfl
abbrev ww_829 : Cond := .methodLink RL 187 yX11_image
theorem wi_829 : ww_829 ∈ mj_tb := mj_t5 (i := 218) rfl rfl
abbrev ww_830 : Cond := .methodLink RL 190 yX12_image
theorem wi_830 : ww_830 ∈ mj_tb := mj_t8 (i := 208) rfl rfl
abbrev ww_831 : Cond := .methodLink RL 191 yX11_restore
theorem wi_831 : ww_831 ∈ mj_tb := mj_t5 (i := 237) rfl rfl
abbrev ww_832 : Cond := .methodLink RL 194 yX12_restore
theorem wi_832 : ww_832 ∈ mj_tb := mj_t8 (i := 212) rfl rfl
abbrev ww_833 : Cond := .methodLink RL 195 yX11_count
theorem wi_833 : ww_833 ∈ mj_tb := mj_t6 (i := 1) rfl rfl
abbrev ww_834 : Cond := .methodLink RL 198 yX12_count
theorem wi_834 : ww_834 ∈ mj_tb := mj_t8 (i := 216) rfl rfl
def mj_wi (i : Nat) : Cond := (cond (Nat.blt i 417) (cond (Nat.blt i 208) (cond (Nat.blt i 104) (cond (Nat.blt i 52) (cond (Nat.blt i 26) (cond (Nat.blt i 13) (cond (Nat.blt i 6) (cond (Nat.blt i 3) (cond (Nat.blt i 1) ww_0 (cond (Nat.blt i 2) ww_1 ww_2)) (cond (Nat.blt i 4) ww_3 (cond (Nat.blt i 5) ww_4 ww_5))) (cond (Nat.blt i 9) (cond (Nat.blt i 7) ww_6 (cond (Nat.blt i 8) ww_7 ww_8)) (cond (Nat.blt i 11) (cond (Nat.blt i 10) ww_9 ww_10) (cond (Nat.blt i 12) ww_11 ww_12)))) (cond (Nat.blt i 19) (cond (Nat.blt i 16) (cond (Nat.blt i 14) ww_13 (cond (Nat.blt i 15) ww_14 ww_15)) (cond (Nat.blt i 17) ww_16 (cond (Nat.blt i 18) ww_17 ww_18))) (cond (Nat.blt i 22) (cond (Nat.blt i 20) ww_19 (cond (Nat.blt i 21) ww_20 ww_21)) (cond (Nat.blt i 24) (cond (Nat.blt i 23) ww_22 ww_23) (cond (Nat.blt i 25) ww_24 ww_25))))) (cond (Nat.blt i 39) (cond (Nat.blt i 32) (cond (Nat.blt i 29) (cond (Nat.blt i 27) ww_26 (cond (Nat.blt i 28) ww_27 ww_28)) (cond (Nat.blt i 30) ww_29 (cond (Nat.blt i 31) ww_30 ww_31))) (cond (Nat.blt i 35) (cond (Nat.blt i 33) ww_32 (cond (Nat.blt i 34) ww_33 ww_34)) (cond (Nat.blt i 37) (cond (Nat.blt i 36) ww_35 ww_36) (cond (Nat.blt i 38) ww_37 ww_38)))) (cond (Nat.blt i 45) (cond (Nat.blt i 42) (cond (Nat.blt i 40) ww_39 (cond (Nat.blt i 41) ww_40 ww_41)) (cond (Nat.blt i 43) ww_42 (cond (Nat.blt i 44) ww_43 ww_44))) (cond (Nat.blt i 48) (cond (Nat.blt i 46) ww_45 (cond (Nat.blt i 47) ww_46 ww_47)) (cond (Nat.blt i 50) (cond (Nat.blt i 49) ww_48 ww_49) (cond (Nat.blt i 51) ww_50 ww_51)))))) (cond (Nat.blt i 78) (cond (Nat.blt i 65) (cond (Nat.blt i 58) (cond (Nat.blt i 55) (cond (Nat.blt i 53) ww_52 (cond (Nat.blt i 54) ww_53 ww_54)) (cond (Nat.blt i 56) ww_55 (cond (Nat.blt i 57) ww_56 ww_57))) (cond (Nat.blt i 61) (cond (Nat.blt i 59) ww_58 (cond (Nat.blt i 60) ww_59 ww_60)) (cond (Nat.blt i 63) (cond (Nat.blt i 62) ww_61 ww_62) (cond (Nat.blt i 64) ww_63 ww_64)))) (cond (Nat.blt i 71) (cond (Nat.blt i 68) (cond (Nat.blt i 66) ww_65 (cond (Nat.blt i 67) ww_66 ww_67)) (cond (Nat.blt i 69) ww_68 (cond (Nat.blt i 70) ww_69 ww_70))) (cond (Nat.blt i 74) (cond (Nat.blt i 72) ww_71 (cond (Nat.blt i 73) ww_72 ww_73)) (cond (Nat.blt i 76) (cond (Nat.blt i 75) ww_74 ww_75) (cond (Nat.blt i 77) ww_76 ww_77))))) (cond (Nat.blt i 91) (cond (Nat.blt i 84) (cond (Nat.blt i 81) (cond (Nat.blt i 79) ww_78 (cond (Nat.blt i 80) ww_79 ww_80)) (cond (Nat.blt i 82) ww_81 (cond (Nat.blt i 83) ww_82 ww_83))) (cond (Nat.blt i 87) (cond (Nat.blt i 85) ww_84 (cond (Nat.blt i 86) ww_85 ww_86)) (cond (Nat.blt i 89) (cond (Nat.blt i 88) ww_87 ww_88) (cond (Nat.blt i 90) ww_89 ww_90)))) (cond (Nat.blt i 97) (cond (Nat.blt i 94) (cond (Nat.blt i 92) ww_91 (cond (Nat.blt i 93) ww_92 ww_93)) (cond (Nat.blt i 95) ww_94 (cond (Nat.blt i 96) ww_95 ww_96))) (cond (Nat.blt i 100) (cond (Nat.blt i 98) ww_97 (cond (Nat.blt i 99) ww_98 ww_99)) (cond (Nat.blt i 102) (cond (Nat.blt i 101) ww_100 ww_101) (cond (Nat.blt i 103) ww_102 ww_103))))))) (cond (Nat.blt i 156) (cond (Nat.blt i 130) (cond (Nat.blt i 117) (cond (Nat.blt i 110) (cond (Nat.blt i 107) (cond (Nat.blt i 105) ww_104 (cond (Nat.blt i 106) ww_105 ww_106)) (cond (Nat.blt i 108) ww_107 (cond (Nat.blt i 109) ww_108 ww_109))) (cond (Nat.blt i 113) (cond (Nat.blt i 111) ww_110 (cond (Nat.blt i 112) ww_111 ww_112)) (cond (Nat.blt i 115) (cond (Nat.blt i 114) ww_113 ww_114) (cond (Nat.blt i 116) ww_115 ww_116)))) (cond (Nat.blt i 123) (cond (Nat.blt i 120) (cond (Nat.blt i 118) ww_117 (cond (Nat.blt i 119) ww_118 ww_119)) (cond (Nat.blt i 121) ww_120 (cond (Nat.blt i 122) ww_121 ww_122))) (cond (Nat.blt i 126) (cond (Nat.blt i 124) ww_123 (cond (Nat.blt i 125) ww_124 ww_125)) (cond (Nat.blt i 128) (cond (Nat.blt i 127) ww_126 ww_127) (cond (Nat.blt i 129) ww_128 ww_129))))) (cond (Nat.blt i 143) (cond (Nat.blt i 136) (cond (Nat.blt i 133) (cond (Nat.blt i 131) ww_130 (cond (Nat.blt i 132) ww_131 ww_132)) (cond (Nat.blt i 134) ww_133 (cond (Nat.blt i 135) ww_134 ww_135))) (cond (Nat.blt i 139) (cond (Nat.blt i 137) ww_136 (cond (Nat.blt i 138) ww_137 ww_138)) (cond (Nat.blt i 141) (cond (Nat.blt i 140) ww_139 ww_140) (cond (Nat.blt i 142) ww_141 ww_142)))) (cond (Nat.blt i 149) (cond (Nat.blt i 146) (cond (Nat.blt i 144) ww_143 (cond (Nat.blt i 145) ww_144 ww_145)) (cond (Nat.blt i 147) ww_146 (cond (Nat.blt i 148) ww_147 ww_148))) (cond (Nat.blt i 152) (cond (Nat.blt i 150) ww_149 (cond (Nat.blt i 151) ww_150 ww_151)) (cond (Nat.blt i 154) (cond (Nat.blt i 153) ww_152 ww_153) (cond (Nat.blt i 155) ww_154 ww_155)))))) (cond (Nat.blt i 182) (cond (Nat.blt i 169) (cond (Nat.blt i 162) (cond (Nat.blt i 159) (cond (Nat.blt i 157) ww_156 (cond (Nat.blt i 158) ww_157 ww_158)) (cond (Nat.blt i 160) ww_159 (cond (Nat.blt i 161) ww_160 ww_161))) (cond (Nat.blt i 165) (cond (Nat.blt i 163) ww_162 (cond (Nat.blt i 164) ww_163 ww_164)) (cond (Nat.blt i 167) (cond (Nat.blt i 166) ww_165 ww_166) (cond (Nat.blt i 168) ww_167 ww_168)))) (cond (Nat.blt i 175) (cond (Nat.blt i 172) (cond (Nat.blt i 170) ww_169 (cond (Nat.blt i 171) ww_170 ww_171)) (cond (Nat.blt i 173) ww_172 (cond (Nat.blt i 174) ww_173 ww_174))) (cond (Nat.blt i 178) (cond (Nat.blt i 176) ww_175 (cond (Nat.blt i 177) ww_176 ww_177)) (cond (Nat.blt i 180) (cond (Nat.blt i 179) ww_178 ww_179) (cond (Nat.blt i 181) ww_180 ww_181))))) (cond (Nat.blt i 195) (cond (Nat.blt i 188) (cond (Nat.blt i 185) (cond (Nat.blt i 183) ww_182 (cond (Nat.blt i 184) ww_183 ww_184)) (cond (Nat.blt i 186) ww_185 (cond (Nat.blt i 187) ww_186 ww_187))) (cond (Nat.blt i 191) (cond (Nat.blt i 189) ww_188 (cond (Nat.blt i 190) ww_189 ww_190)) (cond (Nat.blt i 193) (cond (Nat.blt i 192) ww_191 ww_192) (cond (Nat.blt i 194) ww_193 ww_194)))) (cond (Nat.blt i 201) (cond (Nat.blt i 198) (cond (Nat.blt i 196) ww_195 (cond (Nat.blt i 197) ww_196 ww_197)) (cond (Nat.blt i 199) ww_198 (cond (Nat.blt i 200) ww_199 ww_200))) (cond (Nat.blt i 204) (cond (Nat.blt i 202) ww_201 (cond (Nat.blt i 203) ww_202 ww_203)) (cond (Nat.blt i 206) (cond (Nat.blt i 205) ww_204 ww_205) (cond (Nat.blt i 207) ww_206 ww_207)))))))) (cond (Nat.blt i 312) (cond (Nat.blt i 260) (cond (Nat.blt i 234) (cond (Nat.blt i 221) (cond (Nat.blt i 214) (cond (Nat.blt i 211) (cond (Nat.blt i 209) ww_208 (cond (Nat.blt i 210) ww_209 ww_210)) (cond (Nat.blt i 212) ww_211 (cond (Nat.blt i 213) ww_212 ww_213))) (cond (Nat.blt i 217) (cond (Nat.blt i 215) ww_214 (cond (Nat.blt i 216) ww_215 ww_216)) (cond (Nat.blt i 219) (cond (Nat.blt i 218) ww_217 ww_218) (cond (Nat.blt i 220) ww_219 ww_220)))) (cond (Nat.blt i 227) (cond (Nat.blt i 224) (cond (Nat.blt i 222) ww_221 (cond (Nat.blt i 223) ww_222 ww_223)) (cond (Nat.blt i 225) ww_224 (cond (Nat.blt i 226) ww_225 ww_226))) (cond (Nat.blt i 230) (cond (Nat.blt i 228) ww_227 (cond (Nat.blt i 229) ww_228 ww_229)) (cond (Nat.blt i 232) (cond (Nat.blt i 231) ww_230 ww_231) (cond (Nat.blt i 233) ww_232 ww_233))))) (cond (Nat.blt i 247) (cond (Nat.blt i 240) (cond (Nat.blt i 237) (cond (Nat.blt i 235) ww_234 (cond (Nat.blt i 236) ww_235 ww_236)) (cond (Nat.blt i 238) ww_237 (cond (Nat.blt i 239) ww_238 ww_239))) (cond (Nat.blt i 243) (cond (Nat.blt i 241) ww_240 (cond (Nat.blt i 242) ww_241 ww_242)) (cond (Nat.blt i 245) (cond (Nat.blt i 244) ww_243 ww_244) (cond (Nat.blt i 246) ww_245 ww_246)))) (cond (Nat.blt i 253) (cond (Nat.blt i 250) (cond (Nat.blt i 248) ww_247 (cond (Nat.blt i 249) ww_248 ww_249)) (cond (Nat.blt i 251) ww_250 (cond (Nat.blt i 252) ww_251 ww_252))) (cond (Nat.blt i 256) (cond (Nat.blt i 254) ww_253 (cond (Nat.blt i 255) ww_254 ww_255)) (cond (Nat.blt i 258) (cond (Nat.blt i 257) ww_256 ww_257) (cond (Nat.blt i 259) ww_258 ww_259)))))) (cond (Nat.blt i 286) (cond (Nat.blt i 273) (cond (Nat.blt i 266) (cond (Nat.blt i 263) (cond (Nat.blt i 261) ww_260 (cond (Nat.blt i 262) ww_261 ww_262)) (cond (Nat.blt i 264) ww_263 (cond (Nat.blt i 265) ww_264 ww_265))) (cond (Nat.blt i 269) (cond (Nat.blt i 267) ww_266 (cond (Nat.blt i 268) ww_267 ww_268)) (cond (Nat.blt i 271) (cond (Nat.blt i 270) ww_269 ww_270) (cond (Nat.blt i 272) ww_271 ww_272)))) (cond (Nat.blt i 279) (cond (Nat.blt i 276) (cond (Nat.blt i 274) ww_273 (cond (Nat.blt i 275) ww_274 ww_275)) (cond (Nat.blt i 277) ww_276 (cond (Nat.blt i 278) ww_277 ww_278))) (cond (Nat.blt i 282) (cond (Nat.blt i 280) ww_279 (cond (Nat.blt i 281) ww_280 ww_281)) (cond (Nat.blt i 284) (cond (Nat.blt i 283) ww_282 ww_283) (cond (Nat.blt i 285) ww_284 ww_285))))) (cond (Nat.blt i 299) (cond (Nat.blt i 292) (cond (Nat.blt i 289) (cond (Nat.blt i 287) ww_286 (cond (Nat.blt i 288) ww_287 ww_288)) (cond (Nat.blt i 290) ww_289 (cond (Nat.blt i 291) ww_290 ww_291))) (cond (Nat.blt i 295) (cond (Nat.blt i 293) ww_292 (cond (Nat.blt i 294) ww_293 ww_294)) (cond (Nat.blt i 297) (cond (Nat.blt i 296) ww_295 ww_296) (cond (Nat.blt i 298) ww_297 ww_298)))) (cond (Nat.blt i 305) (cond (Nat.blt i 302) (cond (Nat.blt i 300) ww_299 (cond (Nat.blt i 301) ww_300 ww_301)) (cond (Nat.blt i 303) ww_302 (cond (Nat.blt i 304) ww_303 ww_304))) (cond (Nat.blt i 308) (cond (Nat.blt i 306) ww_305 (cond (Nat.blt i 307) ww_306 ww_307)) (cond (Nat.blt i 310) (cond (Nat.blt i 309) ww_308 ww_309) (cond (Nat.blt i 311) ww_310 ww_311))))))) (cond (Nat.blt i 364) (cond (Nat.blt i 338) (cond (Nat.blt i 325) (cond (Nat.blt i 318) (cond (Nat.blt i 315) (cond (Nat.blt i 313) ww_312 (cond (Nat.blt i 314) ww_313 ww_314)) (cond (Nat.blt i 316) ww_315 (cond (Nat.blt i 317) ww_316 ww_317))) (cond (Nat.blt i 321) (cond (Nat.blt i 319) ww_318 (cond (Nat.blt i 320) ww_319 ww_320)) (cond (Nat.blt i 323) (cond (Nat.blt i 322) ww_321 ww_322) (cond (Nat.blt i 324) ww_323 ww_324)))) (cond (Nat.blt i 331) (cond (Nat.blt i 328) (cond (Nat.blt i 326) ww_325 (cond (Nat.blt i 327) ww_326 ww_327)) (cond (Nat.blt i 329) ww_328 (cond (Nat.blt i 330) ww_329 ww_330))) (cond (Nat.blt i 334) (cond (Nat.blt i 332) ww_331 (cond (Nat.blt i 333) ww_332 ww_333)) (cond (Nat.blt i 336) (cond (Nat.blt i 335) ww_334 ww_335) (cond (Nat.blt i 337) ww_336 ww_337))))) (cond (Nat.blt i 351) (cond (Nat.blt i 344) (cond (Nat.blt i 341) (cond (Nat.blt i 339) ww_338 (cond (Nat.blt i 340) ww_339 ww_340)) (cond (Nat.blt i 342) ww_341 (cond (Nat.blt i 343) ww_342 ww_343))) (cond (Nat.blt i 347) (cond (Nat.blt i 345) ww_344 (cond (Nat.blt i 346) ww_345 ww_346)) (cond (Nat.blt i 349) (cond (Nat.blt i 348) ww_347 ww_348) (cond (Nat.blt i 350) ww_349 ww_350)))) (cond (Nat.blt i 357) (cond (Nat.blt i 354) (cond (Nat.blt i 352) ww_351 (cond (Nat.blt i 353) ww_352 ww_353)) (cond (Nat.blt i 355) ww_354 (cond (Nat.blt i 356) ww_355 ww_356))) (cond (Nat.blt i 360) (cond (Nat.blt i 358) ww_357 (cond (Nat.blt i 359) ww_358 ww_359)) (cond (Nat.blt i 362) (cond (Nat.blt i 361) ww_360 ww_361) (cond (Nat.blt i 363) ww_362 ww_363)))))) (cond (Nat.blt i 390) (cond (Nat.blt i 377) (cond (Nat.blt i 370) (cond (Nat.blt i 367) (cond (Nat.blt i 365) ww_364 (cond (Nat.blt i 366) ww_365 ww_366)) (cond (Nat.blt i 368) ww_367 (cond (Nat.blt i 369) ww_368 ww_369))) (cond (Nat.blt i 373) (cond (Nat.blt i 371) ww_370 (cond (Nat.blt i 372) ww_371 ww_372)) (cond (Nat.blt i 375) (cond (Nat.blt i 374) ww_373 ww_374) (cond (Nat.blt i 376) ww_375 ww_376)))) (cond (Nat.blt i 383) (cond (Nat.blt i 380) (cond (Nat.blt i 378) ww_377 (cond (Nat.blt i 379) ww_378 ww_379)) (cond (Nat.blt i 381) ww_380 (cond (Nat.blt i 382) ww_381 ww_382))) (cond (Nat.blt i 386) (cond (Nat.blt i 384) ww_383 (cond (Nat.blt i 385) ww_384 ww_385)) (cond (Nat.blt i 388) (cond (Nat.blt i 387) ww_386 ww_387) (cond (Nat.blt i 389) ww_388 ww_389))))) (cond (Nat.blt i 403) (cond (Nat.blt i 396) (cond (Nat.blt i 393) (cond (Nat.blt i 391) ww_390 (cond (Nat.blt i 392) ww_391 ww_392)) (cond (Nat.blt i 394) ww_393 (cond (Nat.blt i 395) ww_394 ww_395))) (cond (Nat.blt i 399) (cond (Nat.blt i 397) ww_396 (cond (Nat.blt i 398) ww_397 ww_398)) (cond (Nat.blt i 401) (cond (Nat.blt i 400) ww_399 ww_400) (cond (Nat.blt i 402) ww_401 ww_402)))) (cond (Nat.blt i 410) (cond (Nat.blt i 406) (cond (Nat.blt i 404) ww_403 (cond (Nat.blt i 405) ww_404 ww_405)) (cond (Nat.blt i 408) (cond (Nat.blt i 407) ww_406 ww_407) (cond (Nat.blt i 409) ww_408 ww_409))) (cond (Nat.blt i 413) (cond (Nat.blt i 411) ww_410 (cond (Nat.blt i 412) ww_411 ww_412)) (cond (Nat.blt i 415) (cond (Nat.blt i 414) ww_413 ww_414) (cond (Nat.blt i 416) ww_415 ww_416))))))))) (cond (Nat.blt i 626) (cond (Nat.blt i 521) (cond (Nat.blt i 469) (cond (Nat.blt i 443) (cond (Nat.blt i 430) (cond (Nat.blt i 423) (cond (Nat.blt i 420) (cond (Nat.blt i 418) ww_417 (cond (Nat.blt i 419) ww_418 ww_419)) (cond (Nat.blt i 421) ww_420 (cond (Nat.blt i 422) ww_421 ww_422))) (cond (Nat.blt i 426) (cond (Nat.blt i 424) ww_423 (cond (Nat.blt i 425) ww_424 ww_425)) (cond (Nat.blt i 428) (cond (Nat.blt i 427) ww_426 ww_427) (cond (Nat.blt i 429) ww_428 ww_429)))) (cond (Nat.blt i 436) (cond (Nat.blt i 433) (cond (Nat.blt i 431) ww_430 (cond (Nat.blt i 432) ww_431 ww_432)) (cond (Nat.blt i 434) ww_433 (cond (Nat.blt i 435) ww_434 ww_435))) (cond (Nat.blt i 439) (cond (Nat.blt i 437) ww_436 (cond (Nat.blt i 438) ww_437 ww_438)) (cond (Nat.blt i 441) (cond (Nat.blt i 440) ww_439 ww_440) (cond (Nat.blt i 442) ww_441 ww_442))))) (cond (Nat.blt i 456) (cond (Nat.blt i 449) (cond (Nat.blt i 446) (cond (Nat.blt i 444) ww_443 (cond (Nat.blt i 445) ww_444 ww_445)) (cond (Nat.blt i 447) ww_446 (cond (Nat.blt i 448) ww_447 ww_448))) (cond (Nat.blt i 452) (cond (Nat.blt i 450) ww_449 (cond (Nat.blt i 451) ww_450 ww_451)) (cond (Nat.blt i 454) (cond (Nat.blt i 453) ww_452 ww_453) (cond (Nat.blt i 455) ww_454 ww_455)))) (cond (Nat.blt i 462) (cond (Nat.blt i 459) (cond (Nat.blt i 457) ww_456 (cond (Nat.blt i 458) ww_457 ww_458)) (cond (Nat.blt i 460) ww_459 (cond (Nat.blt i 461) ww_460 ww_461))) (cond (Nat.blt i 465) (cond (Nat.blt i 463) ww_462 (cond (Nat.blt i 464) ww_463 ww_464)) (cond (Nat.blt i 467) (cond (Nat.blt i 466) ww_465 ww_466) (cond (Nat.blt i 468) ww_467 ww_468)))))) (cond (Nat.blt i 495) (cond (Nat.blt i 482) (cond (Nat.blt i 475) (cond (Nat.blt i 472) (cond (Nat.blt i 470) ww_469 (cond (Nat.blt i 471) ww_470 ww_471)) (cond (Nat.blt i 473) ww_472 (cond (Nat.blt i 474) ww_473 ww_474))) (cond (Nat.blt i 478) (cond (Nat.blt i 476) ww_475 (cond (Nat.blt i 477) ww_476 ww_477)) (cond (Nat.blt i 480) (cond (Nat.blt i 479) ww_478 ww_479) (cond (Nat.blt i 481) ww_480 ww_481)))) (cond (Nat.blt i 488) (cond (Nat.blt i 485) (cond (Nat.blt i 483) ww_482 (cond (Nat.blt i 484) ww_483 ww_484)) (cond (Nat.blt i 486) ww_485 (cond (Nat.blt i 487) ww_486 ww_487))) (cond (Nat.blt i 491) (cond (Nat.blt i 489) ww_488 (cond (Nat.blt i 490) ww_489 ww_490)) (cond (Nat.blt i 493) (cond (Nat.blt i 492) ww_491 ww_492) (cond (Nat.blt i 494) ww_493 ww_494))))) (cond (Nat.blt i 508) (cond (Nat.blt i 501) (cond (Nat.blt i 498) (cond (Nat.blt i 496) ww_495 (cond (Nat.blt i 497) ww_496 ww_497)) (cond (Nat.blt i 499) ww_498 (cond (Nat.blt i 500) ww_499 ww_500))) (cond (Nat.blt i 504) (cond (Nat.blt i 502) ww_501 (cond (Nat.blt i 503) ww_502 ww_503)) (cond (Nat.blt i 506) (cond (Nat.blt i 505) ww_504 ww_505) (cond (Nat.blt i 507) ww_506 ww_507)))) (cond (Nat.blt i 514) (cond (Nat.blt i 511) (cond (Nat.blt i 509) ww_508 (cond (Nat.blt i 510) ww_509 ww_510)) (cond (Nat.blt i 512) ww_511 (cond (Nat.blt i 513) ww_512 ww_513))) (cond (Nat.blt i 517) (cond (Nat.blt i 515) ww_514 (cond (Nat.blt i 516) ww_515 ww_516)) (cond (Nat.blt i 519) (cond (Nat.blt i 518) ww_517 ww_518) (cond (Nat.blt i 520) ww_519 ww_520))))))) (cond (Nat.blt i 573) (cond (Nat.blt i 547) (cond (Nat.blt i 534) (cond (Nat.blt i 527) (cond (Nat.blt i 524) (cond (Nat.blt i 522) ww_521 (cond (Nat.blt i 523) ww_522 ww_523)) (cond (Nat.blt i 525) ww_524 (cond (Nat.blt i 526) ww_525 ww_526))) (cond (Nat.blt i 530) (cond (Nat.blt i 528) ww_527 (cond (Nat.blt i 529) ww_528 ww_529)) (cond (Nat.blt i 532) (cond (Nat.blt i 531) ww_530 ww_531) (cond (Nat.blt i 533) ww_532 ww_533)))) (cond (Nat.blt i 540) (cond (Nat.blt i 537) (cond (Nat.blt i 535) ww_534 (cond (Nat.blt i 536) ww_535 ww_536)) (cond (Nat.blt i 538) ww_537 (cond (Nat.blt i 539) ww_538 ww_539))) (cond (Nat.blt i 543) (cond (Nat.blt i 541) ww_540 (cond (Nat.blt i 542) ww_541 ww_542)) (cond (Nat.blt i 545) (cond (Nat.blt i 544) ww_543 ww_544) (cond (Nat.blt i 546) ww_545 ww_546))))) (cond (Nat.blt i 560) (cond (Nat.blt i 553) (cond (Nat.blt i 550) (cond (Nat.blt i 548) ww_547 (cond (Nat.blt i 549) ww_548 ww_549)) (cond (Nat.blt i 551) ww_550 (cond (Nat.blt i 552) ww_551 ww_552))) (cond (Nat.blt i 556) (cond (Nat.blt i 554) ww_553 (cond (Nat.blt i 555) ww_554 ww_555)) (cond (Nat.blt i 558) (cond (Nat.blt i 557) ww_556 ww_557) (cond (Nat.blt i 559) ww_558 ww_559)))) (cond (Nat.blt i 566) (cond (Nat.blt i 563) (cond (Nat.blt i 561) ww_560 (cond (Nat.blt i 562) ww_561 ww_562)) (cond (Nat.blt i 564) ww_563 (cond (Nat.blt i 565) ww_564 ww_565))) (cond (Nat.blt i 569) (cond (Nat.blt i 567) ww_566 (cond (Nat.blt i 568) ww_567 ww_568)) (cond (Nat.blt i 571) (cond (Nat.blt i 570) ww_569 ww_570) (cond (Nat.blt i 572) ww_571 ww_572)))))) (cond (Nat.blt i 599) (cond (Nat.blt i 586) (cond (Nat.blt i 579) (cond (Nat.blt i 576) (cond (Nat.blt i 574) ww_573 (cond (Nat.blt i 575) ww_574 ww_575)) (cond (Nat.blt i 577) ww_576 (cond (Nat.blt i 578) ww_577 ww_578))) (cond (Nat.blt i 582) (cond (Nat.blt i 580) ww_579 (cond (Nat.blt i 581) ww_580 ww_581)) (cond (Nat.blt i 584) (cond (Nat.blt i 583) ww_582 ww_583) (cond (Nat.blt i 585) ww_584 ww_585)))) (cond (Nat.blt i 592) (cond (Nat.blt i 589) (cond (Nat.blt i 587) ww_586 (cond (Nat.blt i 588) ww_587 ww_588)) (cond (Nat.blt i 590) ww_589 (cond (Nat.blt i 591) ww_590 ww_591))) (cond (Nat.blt i 595) (cond (Nat.blt i 593) ww_592 (cond (Nat.blt i 594) ww_593 ww_594)) (cond (Nat.blt i 597) (cond (Nat.blt i 596) ww_595 ww_596) (cond (Nat.blt i 598) ww_597 ww_598))))) (cond (Nat.blt i 612) (cond (Nat.blt i 605) (cond (Nat.blt i 602) (cond (Nat.blt i 600) ww_599 (cond (Nat.blt i 601) ww_600 ww_601)) (cond (Nat.blt i 603) ww_602 (cond (Nat.blt i 604) ww_603 ww_604))) (cond (Nat.blt i 608) (cond (Nat.blt i 606) ww_605 (cond (Nat.blt i 607) ww_606 ww_607)) (cond (Nat.blt i 610) (cond (Nat.blt i 609) ww_608 ww_609) (cond (Nat.blt i 611) ww_610 ww_611)))) (cond (Nat.blt i 619) (cond (Nat.blt i 615) (cond (Nat.blt i 613) ww_612 (cond (Nat.blt i 614) ww_613 ww_614)) (cond (Nat.blt i 617) (cond (Nat.blt i 616) ww_615 ww_616) (cond (Nat.blt i 618) ww_617 ww_618))) (cond (Nat.blt i 622) (cond (Nat.blt i 620) ww_619 (cond (Nat.blt i 621) ww_620 ww_621)) (cond (Nat.blt i 624) (cond (Nat.blt i 623) ww_622 ww_623) (cond (Nat.blt i 625) ww_624 ww_625)))))))) (cond (Nat.blt i 730) (cond (Nat.blt i 678) (cond (Nat.blt i 652) (cond (Nat.blt i 639) (cond (Nat.blt i 632) (cond (Nat.blt i 629) (cond (Nat.blt i 627) ww_626 (cond (Nat.blt i 628) ww_627 ww_628)) (cond (Nat.blt i 630) ww_629 (cond (Nat.blt i 631) ww_630 ww_631))) (cond (Nat.blt i 635) (cond (Nat.blt i 633) ww_632 (cond (Nat.blt i 634) ww_633 ww_634)) (cond (Nat.blt i 637) (cond (Nat.blt i 636) ww_635 ww_636) (cond (Nat.blt i 638) ww_637 ww_638)))) (cond (Nat.blt i 645) (cond (Nat.blt i 642) (cond (Nat.blt i 640) ww_639 (cond (Nat.blt i 641) ww_640 ww_641)) (cond (Nat.blt i 643) ww_642 (cond (Nat.blt i 644) ww_643 ww_644))) (cond (Nat.blt i 648) (cond (Nat.blt i 646) ww_645 (cond (Nat.blt i 647) ww_646 ww_647)) (cond (Nat.blt i 650) (cond (Nat.blt i 649) ww_648 ww_649) (cond (Nat.blt i 651) ww_650 ww_651))))) (cond (Nat.blt i 665) (cond (Nat.blt i 658) (cond (Nat.blt i 655) (cond (Nat.blt i 653) ww_652 (cond (Nat.blt i 654) ww_653 ww_654)) (cond (Nat.blt i 656) ww_655 (cond (Nat.blt i 657) ww_656 ww_657))) (cond (Nat.blt i 661) (cond (Nat.blt i 659) ww_658 (cond (Nat.blt i 660) ww_659 ww_660)) (cond (Nat.blt i 663) (cond (Nat.blt i 662) ww_661 ww_662) (cond (Nat.blt i 664) ww_663 ww_664)))) (cond (Nat.blt i 671) (cond (Nat.blt i 668) (cond (Nat.blt i 666) ww_665 (cond (Nat.blt i 667) ww_666 ww_667)) (cond (Nat.blt i 669) ww_668 (cond (Nat.blt i 670) ww_669 ww_670))) (cond (Nat.blt i 674) (cond (Nat.blt i 672) ww_671 (cond (Nat.blt i 673) ww_672 ww_673)) (cond (Nat.blt i 676) (cond (Nat.blt i 675) ww_674 ww_675) (cond (Nat.blt i 677) ww_676 ww_677)))))) (cond (Nat.blt i 704) (cond (Nat.blt i 691) (cond (Nat.blt i 684) (cond (Nat.blt i 681) (cond (Nat.blt i 679) ww_678 (cond (Nat.blt i 680) ww_679 ww_680)) (cond (Nat.blt i 682) ww_681 (cond (Nat.blt i 683) ww_682 ww_683))) (cond (Nat.blt i 687) (cond (Nat.blt i 685) ww_684 (cond (Nat.blt i 686) ww_685 ww_686)) (cond (Nat.blt i 689) (cond (Nat.blt i 688) ww_687 ww_688) (cond (Nat.blt i 690) ww_689 ww_690)))) (cond (Nat.blt i 697) (cond (Nat.blt i 694) (cond (Nat.blt i 692) ww_691 (cond (Nat.blt i 693) ww_692 ww_693)) (cond (Nat.blt i 695) ww_694 (cond (Nat.blt i 696) ww_695 ww_696))) (cond (Nat.blt i 700) (cond (Nat.blt i 698) ww_697 (cond (Nat.blt i 699) ww_698 ww_699)) (cond (Nat.blt i 702) (cond (Nat.blt i 701) ww_700 ww_701) (cond (Nat.blt i 703) ww_702 ww_703))))) (cond (Nat.blt i 717) (cond (Nat.blt i 710) (cond (Nat.blt i 707) (cond (Nat.blt i 705) ww_704 (cond (Nat.blt i 706) ww_705 ww_706)) (cond (Nat.blt i 708) ww_707 (cond (Nat.blt i 709) ww_708 ww_709))) (cond (Nat.blt i 713) (cond (Nat.blt i 711) ww_710 (cond (Nat.blt i 712) ww_711 ww_712)) (cond (Nat.blt i 715) (cond (Nat.blt i 714) ww_713 ww_714) (cond (Nat.blt i 716) ww_715 ww_716)))) (cond (Nat.blt i 723) (cond (Nat.blt i 720) (cond (Nat.blt i 718) ww_717 (cond (Nat.blt i 719) ww_718 ww_719)) (cond (Nat.blt i 721) ww_720 (cond (Nat.blt i 722) ww_721 ww_722))) (cond (Nat.blt i 726) (cond (Nat.blt i 724) ww_723 (cond (Nat.blt i 725) ww_724 ww_725)) (cond (Nat.blt i 728) (cond (Nat.blt i 727) ww_726 ww_727) (cond (Nat.blt i 729) ww_728 ww_729))))))) (cond (Nat.blt i 782) (cond (Nat.blt i 756) (cond (Nat.blt i 743) (cond (Nat.blt i 736) (cond (Nat.blt i 733) (cond (Nat.blt i 731) ww_730 (cond (Nat.blt i 732) ww_731 ww_732)) (cond (Nat.blt i 734) ww_733 (cond (Nat.blt i 735) ww_734 ww_735))) (cond (Nat.blt i 739) (cond (Nat.blt i 737) ww_736 (cond (Nat.blt i 738) ww_737 ww_738)) (cond (Nat.blt i 741) (cond (Nat.blt i 740) ww_739 ww_740) (cond (Nat.blt i 742) ww_741 ww_742)))) (cond (Nat.blt i 749) (cond (Nat.blt i 746) (cond (Nat.blt i 744) ww_743 (cond (Nat.blt i 745) ww_744 ww_745)) (cond (Nat.blt i 747) ww_746 (cond (Nat.blt i 748) ww_747 ww_748))) (cond (Nat.blt i 752) (cond (Nat.blt i 750) ww_749 (cond (Nat.blt i 751) ww_750 ww_751)) (cond (Nat.blt i 754) (cond (Nat.blt i 753) ww_752 ww_753) (cond (Nat.blt i 755) ww_754 ww_755))))) (cond (Nat.blt i 769) (cond (Nat.blt i 762) (cond (Nat.blt i 759) (cond (Nat.blt i 757) ww_756 (cond (Nat.blt i 758) ww_757 ww_758)) (cond (Nat.blt i 760) ww_759 (cond (Nat.blt i 761) ww_760 ww_761))) (cond (Nat.blt i 765) (cond (Nat.blt i 763) ww_762 (cond (Nat.blt i 764) ww_763 ww_764)) (cond (Nat.blt i 767) (cond (Nat.blt i 766) ww_765 ww_766) (cond (Nat.blt i 768) ww_767 ww_768)))) (cond (Nat.blt i 775) (cond (Nat.blt i 772) (cond (Nat.blt i 770) ww_769 (cond (Nat.blt i 771) ww_770 ww_771)) (cond (Nat.blt i 773) ww_772 (cond (Nat.blt i 774) ww_773 ww_774))) (cond (Nat.blt i 778) (cond (Nat.blt i 776) ww_775 (cond (Nat.blt i 777) ww_776 ww_777)) (cond (Nat.blt i 780) (cond (Nat.blt i 779) ww_778 ww_779) (cond (Nat.blt i 781) ww_780 ww_781)))))) (cond (Nat.blt i 808) (cond (Nat.blt i 795) (cond (Nat.blt i 788) (cond (Nat.blt i 785) (cond (Nat.blt i 783) ww_782 (cond (Nat.blt i 784) ww_783 ww_784)) (cond (Nat.blt i 786) ww_785 (cond (Nat.blt i 787) ww_786 ww_787))) (cond (Nat.blt i 791) (cond (Nat.blt i 789) ww_788 (cond (Nat.blt i 790) ww_789 ww_790)) (cond (Nat.blt i 793) (cond (Nat.blt i 792) ww_791 ww_792) (cond (Nat.blt i 794) ww_793 ww_794)))) (cond (Nat.blt i 801) (cond (Nat.blt i 798) (cond (Nat.blt i 796) ww_795 (cond (Nat.blt i 797) ww_796 ww_797)) (cond (Nat.blt i 799) ww_798 (cond (Nat.blt i 800) ww_799 ww_800))) (cond (Nat.blt i 804) (cond (Nat.blt i 802) ww_801 (cond (Nat.blt i 803) ww_802 ww_803)) (cond (Nat.blt i 806) (cond (Nat.blt i 805) ww_804 ww_805) (cond (Nat.blt i 807) ww_806 ww_807))))) (cond (Nat.blt i 821) (cond (Nat.blt i 814) (cond (Nat.blt i 811) (cond (Nat.blt i 809) ww_808 (cond (Nat.blt i 810) ww_809 ww_810)) (cond (Nat.blt i 812) ww_811 (cond (Nat.blt i 813) ww_812 ww_813))) (cond (Nat.blt i 817) (cond (Nat.blt i 815) ww_814 (cond (Nat.blt i 816) ww_815 ww_816)) (cond (Nat.blt i 819) (cond (Nat.blt i 818) ww_817 ww_818) (cond (Nat.blt i 820) ww_819 ww_820)))) (cond (Nat.blt i 828) (cond (Nat.blt i 824) (cond (Nat.blt i 822) ww_821 (cond (Nat.blt i 823) ww_822 ww_823)) (cond (Nat.blt i 826) (cond (Nat.blt i 825) ww_824 ww_825) (cond (Nat.blt i 827) ww_826 ww_827))) (cond (Nat.blt i 831) (cond (Nat.blt i 829) ww_828 (cond (Nat.blt i 830) ww_829 ww_830)) (cond (Nat.blt i 833) (cond (Nat.blt i 832) ww_831 ww_832) (cond (Nat.blt i 834) ww_833 ww_834))))))))))
theorem mj_wi_in (i : Nat) : mj_wi i ∈ mj_tb := by
  show (fun w => w ∈ mj_tb) (mj_wi i)
  unfold mj_wi
  exact (mj_condw (mj_condw (mj_condw (mj_condw (mj_condw (mj_condw (mj_condw (mj_condw (mj_condw wi_0 (mj_condw wi_1 wi_2)) (mj_condw wi_3 (mj_condw wi_4 wi_5))) (mj_condw (mj_condw wi_6 (mj_condw wi_7 wi_8)) (mj_condw (mj_condw wi_9 wi_10) (mj_condw wi_11 wi_12)))) (mj_condw (mj_condw (mj_condw wi_13 (mj_condw wi_14 wi_15)) (mj_condw wi_16 (mj_condw wi_17 wi_18))) (mj_condw (mj_condw wi_19 (mj_condw wi_20 wi_21)) (mj_condw (mj_condw wi_22 wi_23) (mj_condw wi_24 wi_25))))) (mj_condw (mj_condw (mj_condw (mj_condw wi_26 (mj_condw wi_27 wi_28)) (mj_condw wi_29 (mj_condw wi_30 wi_31))) (mj_condw (mj_condw wi_32 (mj_condw wi_33 wi_34)) (mj_condw (mj_condw wi_35 wi_36) (mj_condw wi_37 wi_38)))) (mj_condw (mj_condw (mj_condw wi_39 (mj_condw wi_40 wi_41)) (mj_condw wi_42 (mj_condw wi_43 wi_44))) (mj_condw (mj_condw wi_45 (mj_condw wi_46 wi_47)) (mj_condw (mj_condw wi_48 wi_49) (mj_condw wi_50 wi_51)))))) (mj_condw (mj_condw (mj_condw (mj_condw (mj_condw wi_52 (mj_condw wi_53 wi_54)) (mj_condw wi_55 (mj_condw wi_56 wi_57))) (mj_condw (mj_condw wi_58 (mj_condw wi_59 wi_60)) (mj_condw (mj_condw wi_61 wi_62) (mj_condw wi_63 wi_64)))) (mj_condw (mj_condw (mj_condw wi_65 (mj_condw wi_66 wi_67)) (mj_condw wi_68 (mj_condw wi_69 wi_70))) (mj_condw (mj_condw wi_71 (mj_condw wi_72 wi_73)) (mj_condw (mj_condw wi_74 wi_75) (mj_condw wi_76 wi_77))))) (mj_condw (mj_condw (mj_condw (mj_condw wi_78 (mj_condw wi_79 wi_80)) (mj_condw wi_81 (mj_condw wi_82 wi_83))) (mj_condw (mj_condw wi_84 (mj_condw wi_85 wi_86)) (mj_condw (mj_condw wi_87 wi_88) (mj_condw wi_89 wi_90)))) (mj_condw (mj_condw (mj_condw wi_91 (mj_condw wi_92 wi_93)) (mj_condw wi_94 (mj_condw wi_95 wi_96))) (mj_condw (mj_condw wi_97 (mj_condw wi_98 wi_99)) (mj_condw (mj_condw wi_100 wi_101) (mj_condw wi_102 wi_103))))))) (mj_condw (mj_condw (mj_condw (mj_condw (mj_condw (mj_condw wi_104 (mj_condw wi_105 wi_106)) (mj_condw wi_107 (mj_condw wi_108 wi_109))) (mj_condw (mj_condw wi_110 (mj_condw wi_111 wi_112)) (mj_condw (mj_condw wi_113 wi_114) (mj_condw wi_115 wi_116)))) (mj_condw (mj_condw (mj_condw wi_117 (mj_condw wi_118 wi_119)) (mj_condw wi_120 (mj_condw wi_121 wi_122))) (mj_condw (mj_condw wi_123 (mj_condw wi_124 wi_125)) (mj_condw (mj_condw wi_126 wi_127) (mj_condw wi_128 wi_129))))) (mj_condw (mj_condw (mj_condw (mj_condw wi_130 (mj_condw wi_131 wi_132)) (mj_condw wi_133 (mj_condw wi_134 wi_135))) (mj_condw (mj_condw wi_136 (mj_condw wi_137 wi_138)) (mj_condw (mj_condw wi_139 wi_140) (mj_condw wi_141 wi_142)))) (mj_condw (mj_condw (mj_condw wi_143 (mj_condw wi_144 wi_145)) (mj_condw wi_146 (mj_condw wi_147 wi_148))) (mj_condw (mj_condw wi_149 (mj_condw wi_150 wi_151)) (mj_condw (mj_condw wi_152 wi_153) (mj_condw wi_154 wi_155)))))) (mj_condw (mj_condw (mj_condw (mj_condw (mj_condw wi_156 (mj_condw wi_157 wi_158)) (mj_condw wi_159 (mj_condw wi_160 wi_161))) (mj_condw (mj_condw wi_162 (mj_condw wi_163 wi_164)) (mj_condw (mj_condw wi_165 wi_166) (mj_condw wi_167 wi_168)))) (mj_condw (mj_condw (mj_condw wi_169 (mj_condw wi_170 wi_171)) (mj_condw wi_172 (mj_condw wi_173 wi_174))) (mj_condw (mj_condw wi_175 (mj_condw wi_176 wi_177)) (mj_condw (mj_condw wi_178 wi_179) (mj_condw wi_180 wi_181))))) (mj_condw (mj_condw (mj_condw (mj_condw wi_182 (mj_condw wi_183 wi_184)) (mj_condw wi_185 (mj_condw wi_186 wi_187))) (mj_condw (mj_condw wi_188 (mj_condw wi_189 wi_190)) (mj_condw (mj_condw wi_191 wi_192) (mj_condw wi_193 wi_194)))) (mj_condw (mj_condw (mj_condw wi_195 (mj_condw wi_196 wi_197)) (mj_condw wi_198 (mj_condw wi_199 wi_200))) (mj_condw (mj_condw wi_201 (mj_condw wi_202 wi_203)) (mj_condw (mj_condw wi_204 wi_205) (mj_condw wi_206 wi_207)))))))) (mj_condw (mj_condw (mj_condw (mj_condw (mj_condw (mj_condw (mj_condw wi_208 (mj_condw wi_209 wi_210)) (mj_condw wi_211 (mj_condw wi_212 wi_213))) (mj_condw (mj_condw wi_214 (mj_condw wi_215 wi_216)) (mj_condw (mj_condw wi_217 wi_218) (mj_condw wi_219 wi_220)))) (mj_condw (mj_condw (mj_condw wi_221 (mj_condw wi_222 wi_223)) (mj_condw wi_224 (mj_condw wi_225 wi_226))) (mj_condw (mj_condw wi_227 (mj_condw wi_228 wi_229)) (mj_condw (mj_condw wi_230 wi_231) (mj_condw wi_232 wi_233))))) (mj_condw (mj_condw (mj_condw (mj_condw wi_234 (mj_condw wi_235 wi_236)) (mj_condw wi_237 (mj_condw wi_238 wi_239))) (mj_condw (mj_condw wi_240 (mj_condw wi_241 wi_242)) (mj_condw (mj_condw wi_243 wi_244) (mj_condw wi_245 wi_246)))) (mj_condw (mj_condw (mj_condw wi_247 (mj_condw wi_248 wi_249)) (mj_condw wi_250 (mj_condw wi_251 wi_252))) (mj_condw (mj_condw wi_253 (mj_condw wi_254 wi_255)) (mj_condw (mj_condw wi_256 wi_257) (mj_condw wi_258 wi_259)))))) (mj_condw (mj_condw (mj_condw (mj_condw (mj_condw wi_260 (mj_condw wi_261 wi_262)) (mj_condw wi_263 (mj_condw wi_264 wi_265))) (mj_condw (mj_condw wi_266 (mj_condw wi_267 wi_268)) (mj_condw (mj_condw wi_269 wi_270) (mj_condw wi_271 wi_272)))) (mj_condw (mj_condw (mj_condw wi_273 (mj_condw wi_274 wi_275)) (mj_condw wi_276 (mj_condw wi_277 wi_278))) (mj_condw (mj_condw wi_279 (mj_condw wi_280 wi_281)) (mj_condw (mj_condw wi_282 wi_283) (mj_condw wi_284 wi_285))))) (mj_condw (mj_condw (mj_condw (mj_condw wi_286 (mj_condw wi_287 wi_288)) (mj_condw wi_289 (mj_condw wi_290 wi_291))) (mj_condw (mj_condw wi_292 (mj_condw wi_293 wi_294)) (mj_condw (mj_condw wi_295 wi_296) (mj_condw wi_297 wi_298)))) (mj_condw (mj_condw (mj_condw wi_299 (mj_condw wi_300 wi_301)) (mj_condw wi_302 (mj_condw wi_303 wi_304))) (mj_condw (mj_condw wi_305 (mj_condw wi_306 wi_307)) (mj_condw (mj_condw wi_308 wi_309) (mj_condw wi_310 wi_311))))))) (mj_condw (mj_condw (mj_condw (mj_condw (mj_condw (mj_condw wi_312 (mj_condw wi_313 wi_314)) (mj_condw wi_315 (mj_condw wi_316 wi_317))) (mj_condw (mj_condw wi_318 (mj_condw wi_319 wi_320)) (mj_condw (mj_condw wi_321 wi_322) (mj_condw wi_323 wi_324)))) (mj_condw (mj_condw (mj_condw wi_325 (mj_condw wi_326 wi_327)) (mj_condw wi_328 (mj_condw wi_329 wi_330))) (mj_condw (mj_condw wi_331 (mj_condw wi_332 wi_333)) (mj_condw (mj_condw wi_334 wi_335) (mj_condw wi_336 wi_337))))) (mj_condw (mj_condw (mj_condw (mj_condw wi_338 (mj_condw wi_339 wi_340)) (mj_condw wi_341 (mj_condw wi_342 wi_343))) (mj_condw (mj_condw wi_344 (mj_condw wi_345 wi_346)) (mj_condw (mj_condw wi_347 wi_348) (mj_condw wi_349 wi_350)))) (mj_condw (mj_condw (mj_condw wi_351 (mj_condw wi_352 wi_353)) (mj_condw wi_354 (mj_condw wi_355 wi_356))) (mj_condw (mj_condw wi_357 (mj_condw wi_358 wi_359)) (mj_condw (mj_condw wi_360 wi_361) (mj_condw wi_362 wi_363)))))) (mj_condw (mj_condw (mj_condw (mj_condw (mj_condw wi_364 (mj_condw wi_365 wi_366)) (mj_condw wi_367 (mj_condw wi_368 wi_369))) (mj_condw (mj_condw wi_370 (mj_condw wi_371 wi_372)) (mj_condw (mj_condw wi_373 wi_374) (mj_condw wi_375 wi_376)))) (mj_condw (mj_condw (mj_condw wi_377 (mj_condw wi_378 wi_379)) (mj_condw wi_380 (mj_condw wi_381 wi_382))) (mj_condw (mj_condw wi_383 (mj_condw wi_384 wi_385)) (mj_condw (mj_condw wi_386 wi_387) (mj_condw wi_388 wi_389))))) (mj_condw (mj_condw (mj_condw (mj_condw wi_390 (mj_condw wi_391 wi_392)) (mj_condw wi_393 (mj_condw wi_394 wi_395))) (mj_condw (mj_condw wi_396 (mj_condw wi_397 wi_398)) (mj_condw (mj_condw wi_399 wi_400) (mj_condw wi_401 wi_402)))) (mj_condw (mj_condw (mj_condw wi_403 (mj_condw wi_404 wi_405)) (mj_condw (mj_condw wi_406 wi_407) (mj_condw wi_408 wi_409))) (mj_condw (mj_condw wi_410 (mj_condw wi_411 wi_412)) (mj_condw (mj_condw wi_413 wi_414) (mj_condw wi_415 wi_416))))))))) (mj_condw (mj_condw (mj_condw (mj_condw (mj_condw (mj_condw (mj_condw (mj_condw wi_417 (mj_condw wi_418 wi_419)) (mj_condw wi_420 (mj_condw wi_421 wi_422))) (mj_condw (mj_condw wi_423 (mj_condw wi_424 wi_425)) (mj_condw (mj_condw wi_426 wi_427) (mj_condw wi_428 wi_429)))) (mj_condw (mj_condw (mj_condw wi_430 (mj_condw wi_431 wi_432)) (mj_condw wi_433 (mj_condw wi_434 wi_435))) (mj_condw (mj_condw wi_436 (mj_condw wi_437 wi_438)) (mj_condw (mj_condw wi_439 wi_440) (mj_condw wi_441 wi_442))))) (mj_condw (mj_condw (mj_condw (mj_condw wi_443 (mj_condw wi_444 wi_445)) (mj_condw wi_446 (mj_condw wi_447 wi_448))) (mj_condw (mj_condw wi_449 (mj_condw wi_450 wi_451)) (mj_condw (mj_condw wi_452 wi_453) (mj_condw wi_454 wi_455)))) (mj_condw (mj_condw (mj_condw wi_456 (mj_condw wi_457 wi_458)) (mj_condw wi_459 (mj_condw wi_460 wi_461))) (mj_condw (mj_condw wi_462 (mj_condw wi_463 wi_464)) (mj_condw (mj_condw wi_465 wi_466) (mj_condw wi_467 wi_468)))))) (mj_condw (mj_condw (mj_condw (mj_condw (mj_condw wi_469 (mj_condw wi_470 wi_471)) (mj_condw wi_472 (mj_condw wi_473 wi_474))) (mj_condw (mj_condw wi_475 (mj_condw wi_476 wi_477)) (mj_condw (mj_condw wi_478 wi_479) (mj_condw wi_480 wi_481)))) (mj_condw (mj_condw (mj_condw wi_482 (mj_condw wi_483 wi_484)) (mj_condw wi_485 (mj_condw wi_486 wi_487))) (mj_condw (mj_condw wi_488 (mj_condw wi_489 wi_490)) (mj_condw (mj_condw wi_491 wi_492) (mj_condw wi_493 wi_494))))) (mj_condw (mj_condw (mj_condw (mj_condw wi_495 (mj_condw wi_496 wi_497)) (mj_condw wi_498 (mj_condw wi_499 wi_500))) (mj_condw (mj_condw wi_501 (mj_condw wi_502 wi_503)) (mj_condw (mj_condw wi_504 wi_505) (mj_condw wi_506 wi_507)))) (mj_condw (mj_condw (mj_condw wi_508 (mj_condw wi_509 wi_510)) (mj_condw wi_511 (mj_condw wi_512 wi_513))) (mj_condw (mj_condw wi_514 (mj_condw wi_515 wi_516)) (mj_condw (mj_condw wi_517 wi_518) (mj_condw wi_519 wi_520))))))) (mj_condw (mj_condw (mj_condw (mj_condw (mj_condw (mj_condw wi_521 (mj_condw wi_522 wi_523)) (mj_condw wi_524 (mj_condw wi_525 wi_526))) (mj_condw (mj_condw wi_527 (mj_condw wi_528 wi_529)) (mj_condw (mj_condw wi_530 wi_531) (mj_condw wi_532 wi_533)))) (mj_condw (mj_condw (mj_condw wi_534 (mj_condw wi_535 wi_536)) (mj_condw wi_537 (mj_condw wi_538 wi_539))) (mj_condw (mj_condw wi_540 (mj_condw wi_541 wi_542)) (mj_condw (mj_condw wi_543 wi_544) (mj_condw wi_545 wi_546))))) (mj_condw (mj_condw (mj_condw (mj_condw wi_547 (mj_condw wi_548 wi_549)) (mj_condw wi_550 (mj_condw wi_551 wi_552))) (mj_condw (mj_condw wi_553 (mj_condw wi_554 wi_555)) (mj_condw (mj_condw wi_556 wi_557) (mj_condw wi_558 wi_559)))) (mj_condw (mj_condw (mj_condw wi_560 (mj_condw wi_561 wi_562)) (mj_condw wi_563 (mj_condw wi_564 wi_565))) (mj_condw (mj_condw wi_566 (mj_condw wi_567 wi_568)) (mj_condw (mj_condw wi_569 wi_570) (mj_condw wi_571 wi_572)))))) (mj_condw (mj_condw (mj_condw (mj_condw (mj_condw wi_573 (mj_condw wi_574 wi_575)) (mj_condw wi_576 (mj_condw wi_577 wi_578))) (mj_condw (mj_condw wi_579 (mj_condw wi_580 wi_581)) (mj_condw (mj_condw wi_582 wi_583) (mj_condw wi_584 wi_585)))) (mj_condw (mj_condw (mj_condw wi_586 (mj_condw wi_587 wi_588)) (mj_condw wi_589 (mj_condw wi_590 wi_591))) (mj_condw (mj_condw wi_592 (mj_condw wi_593 wi_594)) (mj_condw (mj_condw wi_595 wi_596) (mj_condw wi_597 wi_598))))) (mj_condw (mj_condw (mj_condw (mj_condw wi_599 (mj_condw wi_600 wi_601)) (mj_condw wi_602 (mj_condw wi_603 wi_604))) (mj_condw (mj_condw wi_605 (mj_condw wi_606 wi_607)) (mj_condw (mj_condw wi_608 wi_609) (mj_condw wi_610 wi_611)))) (mj_condw (mj_condw (mj_condw wi_612 (mj_condw wi_613 wi_614)) (mj_condw (mj_condw wi_615 wi_616) (mj_condw wi_617 wi_618))) (mj_condw (mj_condw wi_619 (mj_condw wi_620 wi_621)) (mj_condw (mj_condw wi_622 wi_623) (mj_condw wi_624 wi_625)))))))) (mj_condw (mj_condw (mj_condw (mj_condw (mj_condw (mj_condw (mj_condw wi_626 (mj_condw wi_627 wi_628)) (mj_condw wi_629 (mj_condw wi_630 wi_631))) (mj_condw (mj_condw wi_632 (mj_condw wi_633 wi_634)) (mj_condw (mj_condw wi_635 wi_636) (mj_condw wi_637 wi_638)))) (mj_condw (mj_condw (mj_condw wi_639 (mj_condw wi_640 wi_641)) (mj_condw wi_642 (mj_condw wi_643 wi_644))) (mj_condw (mj_condw wi_645 (mj_condw wi_646 wi_647)) (mj_condw (mj_condw wi_648 wi_649) (mj_condw wi_650 wi_651))))) (mj_condw (mj_condw (mj_condw (mj_condw wi_652 (mj_condw wi_653 wi_654)) (mj_condw wi_655 (mj_condw wi_656 wi_657))) (mj_condw (mj_condw wi_658 (mj_condw wi_659 wi_660)) (mj_condw (mj_condw wi_661 wi_662) (mj_condw wi_663 wi_664)))) (mj_condw (mj_condw (mj_condw wi_665 (mj_condw wi_666 wi_667)) (mj_condw wi_668 (mj_condw wi_669 wi_670))) (mj_condw (mj_condw wi_671 (mj_condw wi_672 wi_673)) (mj_condw (mj_condw wi_674 wi_675) (mj_condw wi_676 wi_677)))))) (mj_condw (mj_condw (mj_condw (mj_condw (mj_condw wi_678 (mj_condw wi_679 wi_680)) (mj_condw wi_681 (mj_condw wi_682 wi_683))) (mj_condw (mj_condw wi_684 (mj_condw wi_685 wi_686)) (mj_condw (mj_condw wi_687 wi_688) (mj_condw wi_689 wi_690)))) (mj_condw (mj_condw (mj_condw wi_691 (mj_condw wi_692 wi_693)) (mj_condw wi_694 (mj_condw wi_695 wi_696))) (mj_condw (mj_condw wi_697 (mj_condw wi_698 wi_699)) (mj_condw (mj_condw wi_700 wi_701) (mj_condw wi_702 wi_703))))) (mj_condw (mj_condw (mj_condw (mj_condw wi_704 (mj_condw wi_705 wi_706)) (mj_condw wi_707 (mj_condw wi_708 wi_709))) (mj_condw (mj_condw wi_710 (mj_condw wi_711 wi_712)) (mj_condw (mj_condw wi_713 wi_714) (mj_condw wi_715 wi_716)))) (mj_condw (mj_condw (mj_condw wi_717 (mj_condw wi_718 wi_719)) (mj_condw wi_720 (mj_condw wi_721 wi_722))) (mj_condw (mj_condw wi_723 (mj_condw wi_724 wi_725)) (mj_condw (mj_condw wi_726 wi_727) (mj_condw wi_728 wi_729))))))) (mj_condw (mj_condw (mj_condw (mj_condw (mj_condw (mj_condw wi_730 (mj_condw wi_731 wi_732)) (mj_condw wi_733 (mj_condw wi_734 wi_735))) (mj_condw (mj_condw wi_736 (mj_condw wi_737 wi_738)) (mj_condw (mj_condw wi_739 wi_740) (mj_condw wi_741 wi_742)))) (mj_condw (mj_condw (mj_condw wi_743 (mj_condw wi_744 wi_745)) (mj_condw wi_746 (mj_condw wi_747 wi_748))) (mj_condw (mj_condw wi_749 (mj_condw wi_750 wi_751)) (mj_condw (mj_condw wi_752 wi_753) (mj_condw wi_754 wi_755))))) (mj_condw (mj_condw (mj_condw (mj_condw wi_756 (mj_condw wi_757 wi_758)) (mj_condw wi_759 (mj_condw wi_760 wi_761))) (mj_condw (mj_condw wi_762 (mj_condw wi_763 wi_764)) (mj_condw (mj_condw wi_765 wi_766) (mj_condw wi_767 wi_768)))) (mj_condw (mj_condw (mj_condw wi_769 (mj_condw wi_770 wi_771)) (mj_condw wi_772 (mj_condw wi_773 wi_774))) (mj_condw (mj_condw wi_775 (mj_condw wi_776 wi_777)) (mj_condw (mj_condw wi_778 wi_779) (mj_condw wi_780 wi_781)))))) (mj_condw (mj_condw (mj_condw (mj_condw (mj_condw wi_782 (mj_condw wi_783 wi_784)) (mj_condw wi_785 (mj_condw wi_786 wi_787))) (mj_condw (mj_condw wi_788 (mj_condw wi_789 wi_790)) (mj_condw (mj_condw wi_791 wi_792) (mj_condw wi_793 wi_794)))) (mj_condw (mj_condw (mj_condw wi_795 (mj_condw wi_796 wi_797)) (mj_condw wi_798 (mj_condw wi_799 wi_800))) (mj_condw (mj_condw wi_801 (mj_condw wi_802 wi_803)) (mj_condw (mj_condw wi_804 wi_805) (mj_condw wi_806 wi_807))))) (mj_condw (mj_condw (mj_condw (mj_condw wi_808 (mj_condw wi_809 wi_810)) (mj_condw wi_811 (mj_condw wi_812 wi_813))) (mj_condw (mj_condw wi_814 (mj_condw wi_815 wi_816)) (mj_condw (mj_condw wi_817 wi_818) (mj_condw wi_819 wi_820)))) (mj_condw (mj_condw (mj_condw wi_821 (mj_condw wi_822 wi_823)) (mj_condw (mj_condw wi_824 wi_825) (mj_condw wi_826 wi_827))) (mj_condw (mj_condw wi_828 (mj_condw wi_829 wi_830)) (mj_condw (mj_condw wi_831 wi_832) (mj_condw wi_833 wi_834))))))))))
