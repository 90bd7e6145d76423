/-! ===== the contracts are checked ===== -/
theorem ab_all1 {p : ab_cu → Bool} {l : List ab_cu} {n : Nat} (hl : l.length ≤ n) (h : ∀ j, j < n → ((l.drop j).take 1).all p = true) : ∀ b ∈ l, p b = true := by
  intro b hb
  obtain ⟨j, hj⟩ := List.getElem?_of_mem hb
  have hlt : j < l.length := (List.getElem?_eq_some_iff.mp hj).1
  refine List.all_eq_true.mp (h j (by omega)) b ?_
  have h0 : ((l.drop j).take 1)[0]? = some b := by
    rw [List.getElem?_take_of_lt (by decide), List.getElem?_drop]
    exact hj
  exact List.mem_of_getElem? h0
set_option maxRecDepth 100000 in
theorem ce_0 : ab_ce cd_0 0 = true := by decide +kernel
set_option maxRecDepth 100000 in
theorem cl_0 : (ab_c cd_0).all (ab_cc cd_0 0) = true := by decide +kernel
set_option maxRecDepth 100000 in
theorem kd_0 : ab_ckd cd_0 0 := ⟨by decide +kernel, ce_0, fun b hb => List.all_eq_true.mp cl_0 b hb⟩
set_option maxRecDepth 100000 in
theorem ce_1 : ab_ce cd_1 1 = true := by decide +kernel
set_option maxRecDepth 100000 in
theorem cl_1 : (ab_c cd_1).all (ab_cc cd_1 1) = true := by decide +kernel
set_option maxRecDepth 100000 in
theorem kd_1 : ab_ckd cd_1 1 := ⟨by decide +kernel, ce_1, fun b hb => List.all_eq_true.mp cl_1 b hb⟩
set_option maxRecDepth 100000 in
theorem ce_2 : ab_ce cd_2 2 = true := by decide +kernel
set_option maxRecDepth 100000 in
theorem cl_2 : (ab_c cd_2).all (ab_cc cd_2 2) = true := by decide +kernel
set_option maxRecDepth 100000 in
theorem kd_2 : ab_ckd cd_2 2 := ⟨by decide +kernel, ce_2, fun b hb => List.all_eq_true.mp cl_2 b hb⟩
set_option maxRecDepth 100000 in
theorem ce_3 : ab_ce cd_3 3 = true := by decide +kernel
set_option maxRecDepth 100000 in
theorem cl_3 : (ab_c cd_3).all (ab_cc cd_3 3) = true := by decide +kernel
set_option maxRecDepth 100000 in
theorem kd_3 : ab_ckd cd_3 3 := ⟨by decide +kernel, ce_3, fun b hb => List.all_eq_true.mp cl_3 b hb⟩
set_option maxRecDepth 100000 in
theorem ce_4 : ab_ce cd_4 4 = true := by decide +kernel
set_option maxRecDepth 100000 in
theorem cl_4 : (ab_c cd_4).all (ab_cc cd_4 4) = true := by decide +kernel
set_option maxRecDepth 100000 in
theorem kd_4 : ab_ckd cd_4 4 := ⟨by decide +kernel, ce_4, fun b hb => List.all_eq_true.mp cl_4 b hb⟩
set_option maxRecDepth 100000 in
theorem ce_5 : ab_ce cd_5 5 = true := by decide +kernel
set_option maxRecDepth 100000 in
theorem cl_5 : (ab_c cd_5).all (ab_cc cd_5 5) = true := by decide +kernel
set_option maxRecDepth 100000 in
theorem kd_5 : ab_ckd cd_5 5 := ⟨by decide +kernel, ce_5, fun b hb => List.all_eq_true.mp cl_5 b hb⟩
set_option maxRecDepth 100000 in
theorem ce_6 : ab_ce cd_6 6 = true := by decide +kernel
set_option maxRecDepth 100000 in
theorem cl_6 : (ab_c cd_6).all (ab_cc cd_6 6) = true := by decide +kernel
set_option maxRecDepth 100000 in
theorem kd_6 : ab_ckd cd_6 6 := ⟨by decide +kernel, ce_6, fun b hb => List.all_eq_true.mp cl_6 b hb⟩
set_option maxRecDepth 100000 in
theorem ce_7 : ab_ce cd_7 7 = true := by decide +kernel
set_option maxRecDepth 100000 in
theorem cl_7 : (ab_c cd_7).all (ab_cc cd_7 7) = true := by decide +kernel
set_option maxRecDepth 100000 in
theorem kd_7 : ab_ckd cd_7 7 := ⟨by decide +kernel, ce_7, fun b hb => List.all_eq_true.mp cl_7 b hb⟩
set_option maxRecDepth 100000 in
theorem ce_8 : ab_ce cd_8 8 = true := by decide +kernel
set_option maxRecDepth 100000 in
theorem cl_8 : (ab_c cd_8).all (ab_cc cd_8 8) = true := by decide +kernel
set_option maxRecDepth 100000 in
theorem kd_8 : ab_ckd cd_8 8 := ⟨by decide +kernel, ce_8, fun b hb => List.all_eq_true.mp cl_8 b hb⟩
set_option maxRecDepth 100000 in
theorem ce_9 : ab_ce cd_9 9 = true := by decide +kernel
set_option maxRecDepth 100000 in
theorem cl_9 : (ab_c cd_9).all (ab_cc cd_9 9) = true := by decide +kernel
set_option maxRecDepth 100000 in
theorem kd_9 : ab_ckd cd_9 9 := ⟨by decide +kernel, ce_9, fun b hb => List.all_eq_true.mp cl_9 b hb⟩
set_option maxRecDepth 100000 in
theorem ce_10 : ab_ce cd_10 10 = true := by decide +kernel
set_option maxRecDepth 100000 in
theorem kd_10 : ab_ckd cd_10 10 := ⟨by decide +kernel, ce_10, fun b hb => by cases hb⟩
set_option maxRecDepth 100000 in
theorem ce_11 : ab_ce cd_11 11 = true := by decide +kernel
set_option maxRecDepth 100000 in
theorem kd_11 : ab_ckd cd_11 11 := ⟨by decide +kernel, ce_11, fun b hb => by cases hb⟩
set_option maxRecDepth 100000 in
theorem ce_12 : ab_ce cd_12 12 = true := by decide +kernel
set_option maxRecDepth 100000 in
theorem cl_12 : (ab_c cd_12).all (ab_cc cd_12 12) = true := by decide +kernel
set_option maxRecDepth 100000 in
theorem kd_12 : ab_ckd cd_12 12 := ⟨by decide +kernel, ce_12, fun b hb => List.all_eq_true.mp cl_12 b hb⟩
set_option maxRecDepth 100000 in
theorem ce_13 : ab_ce cd_13 13 = true := by decide +kernel
set_option maxRecDepth 100000 in
theorem kd_13 : ab_ckd cd_13 13 := ⟨by decide +kernel, ce_13, fun b hb => by cases hb⟩
set_option maxRecDepth 100000 in
theorem ce_14 : ab_ce cd_14 14 = true := by decide +kernel
set_option maxRecDepth 100000 in
theorem kd_14 : ab_ckd cd_14 14 := ⟨by decide +kernel, ce_14, fun b hb => by cases hb⟩
set_option maxRecDepth 100000 in
theorem ce_15 : ab_ce cd_15 15 = true := by decide +kernel
set_option maxRecDepth 100000 in
theorem kd_15 : ab_ckd cd_15 15 := ⟨by decide +kernel, ce_15, fun b hb => by cases hb⟩
set_option maxRecDepth 100000 in
theorem ce_16 : ab_ce cd_16 16 = true := by decide +kernel
set_option maxRecDepth 100000 in
theorem kd_16 : ab_ckd cd_16 16 := ⟨by decide +kernel, ce_16, fun b hb => by cases hb⟩
set_option maxRecDepth 100000 in
theorem ce_17 : ab_ce cd_17 17 = true := by decide +kernel
set_option maxRecDepth 100000 in
theorem cl_17 : (ab_c cd_17).all (ab_cc cd_17 17) = true := by decide +kernel
set_option maxRecDepth 100000 in
theorem kd_17 : ab_ckd cd_17 17 := ⟨by decide +kernel, ce_17, fun b hb => List.all_eq_true.mp cl_17 b hb⟩
set_option maxRecDepth 100000 in
theorem ce_18 : ab_ce cd_18 18 = true := by decide +kernel
set_option maxRecDepth 100000 in
theorem cl_18 : (ab_c cd_18).all (ab_cc cd_18 18) = true := by decide +kernel
set_option maxRecDepth 100000 in
theorem kd_18 : ab_ckd cd_18 18 := ⟨by decide +kernel, ce_18, fun b hb => List.all_eq_true.mp cl_18 b hb⟩
set_option maxRecDepth 100000 in
theorem ce_19 : ab_ce cd_19 19 = true := by decide +kernel
set_option maxRecDepth 100000 in
theorem kd_19 : ab_ckd cd_19 19 := ⟨by decide +kernel, ce_19, fun b hb => by cases hb⟩
set_option maxRecDepth 100000 in
theorem ce_20 : ab_ce cd_20 20 = true := by decide +kernel
set_option maxRecDepth 100000 in
theorem kd_20 : ab_ckd cd_20 20 := ⟨by decide +kernel, ce_20, fun b hb => by cases hb⟩
set_option maxRecDepth 100000 in
theorem ce_21 : ab_ce cd_21 21 = true := by decide +kernel
set_option maxRecDepth 100000 in
theorem cl_21 : (ab_c cd_21).all (ab_cc cd_21 21) = true := by decide +kernel
set_option maxRecDepth 100000 in
theorem kd_21 : ab_ckd cd_21 21 := ⟨by decide +kernel, ce_21, fun b hb => List.all_eq_true.mp cl_21 b hb⟩
set_option maxRecDepth 100000 in
theorem ce_22 : ab_ce cd_22 22 = true := by decide +kernel
set_option maxRecDepth 100000 in
theorem cl_22 : (ab_c cd_22).all (ab_cc cd_22 22) = true := by decide +kernel
set_option maxRecDepth 100000 in
theorem kd_22 : ab_ckd cd_22 22 := ⟨by decide +kernel, ce_22, fun b hb => List.all_eq_true.mp cl_22 b hb⟩
set_option maxRecDepth 100000 in
theorem ce_23 : ab_ce cd_23 23 = true := by decide +kernel
set_option maxRecDepth 100000 in
theorem cl_23 : (ab_c cd_23).all (ab_cc cd_23 23) = true := by decide +kernel
set_option maxRecDepth 100000 in
theorem kd_23 : ab_ckd cd_23 23 := ⟨by decide +kernel, ce_23, fun b hb => List.all_eq_true.mp cl_23 b hb⟩
set_option maxRecDepth 100000 in
theorem ce_24 : ab_ce cd_24 24 = true := by decide +kernel
set_option maxRecDepth 100000 in
theorem cl_24 : (ab_c cd_24).all (ab_cc cd_24 24) = true := by decide +kernel
set_option maxRecDepth 100000 in
theorem kd_24 : ab_ckd cd_24 24 := ⟨by decide +kernel, ce_24, fun b hb => List.all_eq_true.mp cl_24 b hb⟩
set_option maxRecDepth 100000 in
theorem ce_25 : ab_ce cd_25 25 = true := by decide +kernel
set_option maxRecDepth 100000 in
theorem cl_25 : (ab_c cd_25).all (ab_cc cd_25 25) = true := by decide +kernel
set_option maxRecDepth 100000 in
theorem kd_25 : ab_ckd cd_25 25 := ⟨by decide +kernel, ce_25, fun b hb => List.all_eq_true.mp cl_25 b hb⟩
set_option maxRecDepth 100000 in
theorem ce_26 : ab_ce cd_26 26 = true := by decide +kernel
set_option maxRecDepth 100000 in
theorem kd_26 : ab_ckd cd_26 26 := ⟨by decide +kernel, ce_26, fun b hb => by cases hb⟩
set_option maxRecDepth 100000 in
theorem ce_27 : ab_ce cd_27 27 = true := by decide +kernel
set_option maxRecDepth 100000 in
theorem cl_27 : (ab_c cd_27).all (ab_cc cd_27 27) = true := by decide +kernel
set_option maxRecDepth 100000 in
theorem kd_27 : ab_ckd cd_27 27 := ⟨by decide +kernel, ce_27, fun b hb => List.all_eq_true.mp cl_27 b hb⟩
set_option maxRecDepth 100000 in
theorem ce_28 : ab_ce cd_28 28 = true := by decide +kernel
set_option maxRecDepth 100000 in
theorem cl_28 : (ab_c cd_28).all (ab_cc cd_28 28) = true := by decide +kernel
set_option maxRecDepth 100000 in
theorem kd_28 : ab_ckd cd_28 28 := ⟨by decide +kernel, ce_28, fun b hb => List.all_eq_true.mp cl_28 b hb⟩
set_option maxRecDepth 100000 in
theorem ce_29 : ab_ce cd_29 29 = true := by decide +kernel
set_option maxRecDepth 100000 in
theorem cl_29 : (ab_c cd_29).all (ab_cc cd_29 29) = true := by decide +kernel
set_option maxRecDepth 100000 in
theorem kd_29 : ab_ckd cd_29 29 := ⟨by decide +kernel, ce_29, fun b hb => List.all_eq_true.mp cl_29 b hb⟩
set_option maxRecDepth 100000 in
theorem ce_30 : ab_ce cd_30 30 = true := by decide +kernel
set_option maxRecDepth 100000 in
theorem cl_30 : (ab_c cd_30).all (ab_cc cd_30 30) = true := by decide +kernel
set_option maxRecDepth 100000 in
theorem kd_30 : ab_ckd cd_30 30 := ⟨by decide +kernel, ce_30, fun b hb => List.all_eq_true.mp cl_30 b hb⟩
set_option maxRecDepth 100000 in
theorem ce_31 : ab_ce cd_31 31 = true := by decide +kernel
set_option maxRecDepth 100000 in
theorem cl_31 : (ab_c cd_31).all (ab_cc cd_31 31) = true := by decide +kernel
set_option maxRecDepth 100000 in
theorem kd_31 : ab_ckd cd_31 31 := ⟨by decide +kernel, ce_31, fun b hb => List.all_eq_true.mp cl_31 b hb⟩
set_option maxRecDepth 100000 in
theorem ce_32 : ab_ce cd_32 32 = true := by decide +kernel
set_option maxRecDepth 100000 in
theorem cl_32 : (ab_c cd_32).all (ab_cc cd_32 32) = true := by decide +kernel
set_option maxRecDepth 100000 in
theorem kd_32 : ab_ckd cd_32 32 := ⟨by decide +kernel, ce_32, fun b hb => List.all_eq_true.mp cl_32 b hb⟩
set_option maxRecDepth 100000 in
theorem ce_33 : ab_ce cd_33 33 = true := by decide +kernel
set_option maxRecDepth 100000 in
theorem cl_33 : (ab_c cd_33).all (ab_cc cd_33 33) = true := by decide +kernel
set_option maxRecDepth 100000 in
theorem kd_33 : ab_ckd cd_33 33 := ⟨by decide +kernel, ce_33, fun b hb => List.all_eq_true.mp cl_33 b hb⟩
set_option maxRecDepth 100000 in
theorem ce_34 : ab_ce cd_34 34 = true := by decide +kernel
set_option maxRecDepth 100000 in
theorem cl_34 : (ab_c cd_34).all (ab_cc cd_34 34) = true := by decide +kernel
set_option maxRecDepth 100000 in
theorem kd_34 : ab_ckd cd_34 34 := ⟨by decide +kernel, ce_34, fun b hb => List.all_eq_true.mp cl_34 b hb⟩
set_option maxRecDepth 100000 in
theorem ce_35 : ab_ce cd_35 35 = true := by decide +kernel
set_option maxRecDepth 100000 in
theorem kd_35 : ab_ckd cd_35 35 := ⟨by decide +kernel, ce_35, fun b hb => by cases hb⟩
set_option maxRecDepth 100000 in
theorem ce_36 : ab_ce cd_36 36 = true := by decide +kernel
set_option maxRecDepth 100000 in
theorem cl_36 : (ab_c cd_36).all (ab_cc cd_36 36) = true := by decide +kernel
set_option maxRecDepth 100000 in
theorem kd_36 : ab_ckd cd_36 36 := ⟨by decide +kernel, ce_36, fun b hb => List.all_eq_true.mp cl_36 b hb⟩
set_option maxRecDepth 100000 in
theorem ce_37 : ab_ce cd_37 37 = true := by decide +kernel
set_option maxRecDepth 100000 in
theorem cl_37 : (ab_c cd_37).all (ab_cc cd_37 37) = true := by decide +kernel
set_option maxRecDepth 100000 in
theorem kd_37 : ab_ckd cd_37 37 := ⟨by decide +kernel, ce_37, fun b hb => List.all_eq_true.mp cl_37 b hb⟩
set_option maxRecDepth 100000 in
theorem ce_38 : ab_ce cd_38 38 = true := by decide +kernel
set_option maxRecDepth 100000 in
theorem cl_38 : (ab_c cd_38).all (ab_cc cd_38 38) = true := by decide +kernel
set_option maxRecDepth 100000 in
theorem kd_38 : ab_ckd cd_38 38 := ⟨by decide +kernel, ce_38, fun b hb => List.all_eq_true.mp cl_38 b hb⟩
set_option maxRecDepth 100000 in
theorem ce_39 : ab_ce cd_39 39 = true := by decide +kernel
set_option maxRecDepth 100000 in
theorem cl_39 : (ab_c cd_39).all (ab_cc cd_39 39) = true := by decide +kernel
set_option maxRecDepth 100000 in
theorem kd_39 : ab_ckd cd_39 39 := ⟨by decide +kernel, ce_39, fun b hb => List.all_eq_true.mp cl_39 b hb⟩
set_option maxRecDepth 100000 in
theorem ce_40 : ab_ce cd_40 40 = true := by decide +kernel
set_option maxRecDepth 100000 in
theorem kd_40 : ab_ckd cd_40 40 := ⟨by decide +kernel, ce_40, fun b hb => by cases hb⟩
set_option maxRecDepth 100000 in
theorem ce_41 : ab_ce cd_41 41 = true := by decide +kernel
set_option maxRecDepth 100000 in
theorem cl_41 : (ab_c cd_41).all (ab_cc cd_41 41) = true := by decide +kernel
set_option maxRecDepth 100000 in
theorem kd_41 : ab_ckd cd_41 41 := ⟨by decide +kernel, ce_41, fun b hb => List.all_eq_true.mp cl_41 b hb⟩
set_option maxRecDepth 100000 in
theorem ce_42 : ab_ce cd_42 42 = true := by decide +kernel
set_option maxRecDepth 100000 in
theorem cl_42 : (ab_c cd_42).all (ab_cc cd_42 42) = true := by decide +kernel
set_option maxRecDepth 100000 in
theorem kd_42 : ab_ckd cd_42 42 := ⟨by decide +kernel, ce_42, fun b hb => List.all_eq_true.mp cl_42 b hb⟩
set_option maxRecDepth 100000 in
theorem ce_43 : ab_ce cd_43 43 = true := by decide +kernel
set_option maxRecDepth 100000 in
theorem kd_43 : ab_ckd cd_43 43 := ⟨by decide +kernel, ce_43, fun b hb => by cases hb⟩
set_option maxRecDepth 100000 in
theorem ce_44 : ab_ce cd_44 44 = true := by decide +kernel
set_option maxRecDepth 100000 in
theorem kd_44 : ab_ckd cd_44 44 := ⟨by decide +kernel, ce_44, fun b hb => by cases hb⟩
set_option maxRecDepth 100000 in
theorem ce_45 : ab_ce cd_45 45 = true := by decide +kernel
set_option maxRecDepth 100000 in
theorem kd_45 : ab_ckd cd_45 45 := ⟨by decide +kernel, ce_45, fun b hb => by cases hb⟩
set_option maxRecDepth 100000 in
theorem ce_46 : ab_ce cd_46 46 = true := by decide +kernel
set_option maxRecDepth 100000 in
theorem kd_46 : ab_ckd cd_46 46 := ⟨by decide +kernel, ce_46, fun b hb => by cases hb⟩
set_option maxRecDepth 100000 in
theorem ce_47 : ab_ce cd_47 47 = true := by decide +kernel
set_option maxRecDepth 100000 in
theorem cl_47 : (ab_c cd_47).all (ab_cc cd_47 47) = true := by decide +kernel
set_option maxRecDepth 100000 in
theorem kd_47 : ab_ckd cd_47 47 := ⟨by decide +kernel, ce_47, fun b hb => List.all_eq_true.mp cl_47 b hb⟩
set_option maxRecDepth 100000 in
theorem ce_48 : ab_ce cd_48 48 = true := by decide +kernel
set_option maxRecDepth 100000 in
theorem kd_48 : ab_ckd cd_48 48 := ⟨by decide +kernel, ce_48, fun b hb => by cases hb⟩
set_option maxRecDepth 100000 in
theorem ce_49 : ab_ce cd_49 49 = true := by decide +kernel
set_option maxRecDepth 100000 in
theorem kd_49 : ab_ckd cd_49 49 := ⟨by decide +kernel, ce_49, fun b hb => by cases hb⟩
set_option maxRecDepth 100000 in
theorem ce_50 : ab_ce cd_50 50 = true := by decide +kernel
set_option maxRecDepth 100000 in
theorem cl_50 : (ab_c cd_50).all (ab_cc cd_50 50) = true := by decide +kernel
set_option maxRecDepth 100000 in
theorem kd_50 : ab_ckd cd_50 50 := ⟨by decide +kernel, ce_50, fun b hb => List.all_eq_true.mp cl_50 b hb⟩
set_option maxRecDepth 100000 in
theorem ce_51 : ab_ce cd_51 51 = true := by decide +kernel
set_option maxRecDepth 100000 in
theorem kd_51 : ab_ckd cd_51 51 := ⟨by decide +kernel, ce_51, fun b hb => by cases hb⟩
set_option maxRecDepth 100000 in
theorem ce_52 : ab_ce cd_52 52 = true := by decide +kernel
set_option maxRecDepth 100000 in
theorem cl_52 : (ab_c cd_52).all (ab_cc cd_52 52) = true := by decide +kernel
set_option maxRecDepth 100000 in
theorem kd_52 : ab_ckd cd_52 52 := ⟨by decide +kernel, ce_52, fun b hb => List.all_eq_true.mp cl_52 b hb⟩
set_option maxRecDepth 100000 in
theorem ce_53 : ab_ce cd_53 53 = true := by decide +kernel
set_option maxRecDepth 100000 in
theorem kd_53 : ab_ckd cd_53 53 := ⟨by decide +kernel, ce_53, fun b hb => by cases hb⟩
set_option maxRecDepth 100000 in
theorem ce_54 : ab_ce cd_54 54 = true := by decide +kernel
set_option maxRecDepth 100000 in
theorem kd_54 : ab_ckd cd_54 54 := ⟨by decide +kernel, ce_54, fun b hb => by cases hb⟩
set_option maxRecDepth 100000 in
theorem ce_55 : ab_ce cd_55 55 = true := by decide +kernel
set_option maxRecDepth 100000 in
theorem kd_55 : ab_ckd cd_55 55 := ⟨by decide +kernel, ce_55, fun b hb => by cases hb⟩
set_option maxRecDepth 100000 in
theorem ce_56 : ab_ce cd_56 56 = true := by decide +kernel
set_option maxRecDepth 100000 in
theorem cl_56 : (ab_c cd_56).all (ab_cc cd_56 56) = true := by decide +kernel
set_option maxRecDepth 100000 in
theorem kd_56 : ab_ckd cd_56 56 := ⟨by decide +kernel, ce_56, fun b hb => List.all_eq_true.mp cl_56 b hb⟩
set_option maxRecDepth 100000 in
theorem ce_57 : ab_ce cd_57 57 = true := by decide +kernel
set_option maxRecDepth 100000 in
theorem cl_57 : (ab_c cd_57).all (ab_cc cd_57 57) = true := by decide +kernel
set_option maxRecDepth 100000 in
theorem kd_57 : ab_ckd cd_57 57 := ⟨by decide +kernel, ce_57, fun b hb => List.all_eq_true.mp cl_57 b hb⟩
set_option maxRecDepth 100000 in
theorem ce_58 : ab_ce cd_58 58 = true := by decide +kernel
set_option maxRecDepth 100000 in
theorem kd_58 : ab_ckd cd_58 58 := ⟨by decide +kernel, ce_58, fun b hb => by cases hb⟩
set_option maxRecDepth 100000 in
theorem ce_59 : ab_ce cd_59 59 = true := by decide +kernel
set_option maxRecDepth 100000 in
theorem kd_59 : ab_ckd cd_59 59 := ⟨by decide +kernel, ce_59, fun b hb => by cases hb⟩
set_option maxRecDepth 100000 in
theorem ce_60 : ab_ce cd_60 60 = true := by decide +kernel
set_option maxRecDepth 100000 in
theorem cl_60 : (ab_c cd_60).all (ab_cc cd_60 60) = true := by decide +kernel
set_option maxRecDepth 100000 in
theorem kd_60 : ab_ckd cd_60 60 := ⟨by decide +kernel, ce_60, fun b hb => List.all_eq_true.mp cl_60 b hb⟩
set_option maxRecDepth 100000 in
theorem ce_61 : ab_ce cd_61 61 = true := by decide +kernel
set_option maxRecDepth 100000 in
theorem cl_61 : (ab_c cd_61).all (ab_cc cd_61 61) = true := by decide +kernel
set_option maxRecDepth 100000 in
theorem kd_61 : ab_ckd cd_61 61 := ⟨by decide +kernel, ce_61, fun b hb => List.all_eq_true.mp cl_61 b hb⟩
set_option maxRecDepth 100000 in
theorem ce_62 : ab_ce cd_62 62 = true := by decide +kernel
set_option maxRecDepth 100000 in
theorem kd_62 : ab_ckd cd_62 62 := ⟨by decide +kernel, ce_62, fun b hb => by cases hb⟩
set_option maxRecDepth 100000 in
theorem ce_63 : ab_ce cd_63 63 = true := by decide +kernel
set_option maxRecDepth 100000 in
theorem kd_63 : ab_ckd cd_63 63 := ⟨by decide +kernel, ce_63, fun b hb => by cases hb⟩
set_option maxRecDepth 100000 in
theorem ce_64 : ab_ce cd_64 64 = true := by decide +kernel
set_option maxRecDepth 100000 in
theorem kd_64 : ab_ckd cd_64 64 := ⟨by decide +kernel, ce_64, fun b hb => by cases hb⟩
set_option maxRecDepth 100000 in
theorem ce_65 : ab_ce cd_65 65 = true := by decide +kernel
set_option maxRecDepth 100000 in
theorem kd_65 : ab_ckd cd_65 65 := ⟨by decide +kernel, ce_65, fun b hb => by cases hb⟩
set_option maxRecDepth 100000 in
theorem ce_66 : ab_ce cd_66 66 = true := by decide +kernel
set_option maxRecDepth 100000 in
theorem kd_66 : ab_ckd cd_66 66 := ⟨by decide +kernel, ce_66, fun b hb => by cases hb⟩
set_option maxRecDepth 100000 in
theorem ce_67 : ab_ce cd_67 67 = true := by decide +kernel
set_option maxRecDepth 100000 in
theorem kd_67 : ab_ckd cd_67 67 := ⟨by decide +kernel, ce_67, fun b hb => by cases hb⟩
set_option maxRecDepth 100000 in
theorem ce_68 : ab_ce cd_68 68 = true := by decide +kernel
set_option maxRecDepth 100000 in
theorem kd_68 : ab_ckd cd_68 68 := ⟨by decide +kernel, ce_68, fun b hb => by cases hb⟩
set_option maxRecDepth 100000 in
theorem ce_69 : ab_ce cd_69 69 = true := by decide +kernel
set_option maxRecDepth 100000 in
theorem cl_69_0 : (((ab_c cd_69).drop 0).take 1).all (ab_cc cd_69 69) = true := by decide +kernel
set_option maxRecDepth 100000 in
theorem cl_69_1 : (((ab_c cd_69).drop 1).take 1).all (ab_cc cd_69 69) = true := by decide +kernel
set_option maxRecDepth 100000 in
theorem cl_69_2 : (((ab_c cd_69).drop 2).take 1).all (ab_cc cd_69 69) = true := by decide +kernel
set_option maxRecDepth 100000 in
theorem cl_69_3 : (((ab_c cd_69).drop 3).take 1).all (ab_cc cd_69 69) = true := by decide +kernel
set_option maxRecDepth 100000 in
theorem cl_69_4 : (((ab_c cd_69).drop 4).take 1).all (ab_cc cd_69 69) = true := by decide +kernel
set_option maxRecDepth 100000 in
theorem kd_69 : ab_ckd cd_69 69 := ⟨by decide +kernel, ce_69, ab_all1 (n := 5) (by decide +kernel) (fun j hj => match j, hj with
  | 0, _ => cl_69_0
  | 1, _ => cl_69_1
  | 2, _ => cl_69_2
  | 3, _ => cl_69_3
  | 4, _ => cl_69_4
  | n + 5, h => absurd h (by omega))⟩
set_option maxRecDepth 100000 in
theorem ce_70 : ab_ce cd_70 70 = true := by decide +kernel
set_option maxRecDepth 100000 in
theorem kd_70 : ab_ckd cd_70 70 := ⟨by decide +kernel, ce_70, fun b hb => by cases hb⟩
set_option maxRecDepth 100000 in
theorem ce_71 : ab_ce cd_71 71 = true := by decide +kernel
set_option maxRecDepth 100000 in
theorem cl_71 : (ab_c cd_71).all (ab_cc cd_71 71) = true := by decide +kernel
set_option maxRecDepth 100000 in
theorem kd_71 : ab_ckd cd_71 71 := ⟨by decide +kernel, ce_71, fun b hb => List.all_eq_true.mp cl_71 b hb⟩
set_option maxRecDepth 100000 in
theorem ce_72 : ab_ce cd_72 72 = true := by decide +kernel
set_option maxRecDepth 100000 in
theorem cl_72 : (ab_c cd_72).all (ab_cc cd_72 72) = true := by decide +kernel
set_option maxRecDepth 100000 in
theorem kd_72 : ab_ckd cd_72 72 := ⟨by decide +kernel, ce_72, fun b hb => List.all_eq_true.mp cl_72 b hb⟩
set_option maxRecDepth 100000 in
theorem ce_73 : ab_ce cd_73 73 = true := by decide +kernel
set_option maxRecDepth 100000 in
theorem cl_73 : (ab_c cd_73).all (ab_cc cd_73 73) = true := by decide +kernel
set_option maxRecDepth 100000 in
theorem kd_73 : ab_ckd cd_73 73 := ⟨by decide +kernel, ce_73, fun b hb => List.all_eq_true.mp cl_73 b hb⟩
set_option maxRecDepth 100000 in
theorem ce_74 : ab_ce cd_74 74 = true := by decide +kernel
set_option maxRecDepth 100000 in
theorem cl_74 : (ab_c cd_74).all (ab_cc cd_74 74) = true := by decide +kernel
set_option maxRecDepth 100000 in
theorem kd_74 : ab_ckd cd_74 74 := ⟨by decide +kernel, ce_74, fun b hb => List.all_eq_true.mp cl_74 b hb⟩
set_option maxRecDepth 100000 in
theorem ce_75 : ab_ce cd_75 75 = true := by decide +kernel
set_option maxRecDepth 100000 in
theorem cl_75 : (ab_c cd_75).all (ab_cc cd_75 75) = true := by decide +kernel
set_option maxRecDepth 100000 in
theorem kd_75 : ab_ckd cd_75 75 := ⟨by decide +kernel, ce_75, fun b hb => List.all_eq_true.mp cl_75 b hb⟩
set_option maxRecDepth 100000 in
theorem ce_76 : ab_ce cd_76 76 = true := by decide +kernel
set_option maxRecDepth 100000 in
theorem cl_76 : (ab_c cd_76).all (ab_cc cd_76 76) = true := by decide +kernel
set_option maxRecDepth 100000 in
theorem kd_76 : ab_ckd cd_76 76 := ⟨by decide +kernel, ce_76, fun b hb => List.all_eq_true.mp cl_76 b hb⟩
set_option maxRecDepth 100000 in
theorem ce_77 : ab_ce cd_77 77 = true := by decide +kernel
set_option maxRecDepth 100000 in
theorem cl_77 : (ab_c cd_77).all (ab_cc cd_77 77) = true := by decide +kernel
set_option maxRecDepth 100000 in
theorem kd_77 : ab_ckd cd_77 77 := ⟨by decide +kernel, ce_77, fun b hb => List.all_eq_true.mp cl_77 b hb⟩
set_option maxRecDepth 100000 in
theorem ce_78 : ab_ce cd_78 78 = true := by decide +kernel
set_option maxRecDepth 100000 in
theorem cl_78 : (ab_c cd_78).all (ab_cc cd_78 78) = true := by decide +kernel
set_option maxRecDepth 100000 in
theorem kd_78 : ab_ckd cd_78 78 := ⟨by decide +kernel, ce_78, fun b hb => List.all_eq_true.mp cl_78 b hb⟩
set_option maxRecDepth 100000 in
theorem ce_79 : ab_ce cd_79 79 = true := by decide +kernel
set_option maxRecDepth 100000 in
theorem cl_79 : (ab_c cd_79).all (ab_cc cd_79 79) = true := by decide +kernel
set_option maxRecDepth 100000 in
theorem kd_79 : ab_ckd cd_79 79 := ⟨by decide +kernel, ce_79, fun b hb => List.all_eq_true.mp cl_79 b hb⟩
set_option maxRecDepth 100000 in
theorem ce_80 : ab_ce cd_80 80 = true := by decide +kernel
set_option maxRecDepth 100000 in
theorem cl_80 : (ab_c cd_80).all (ab_cc cd_80 80) = true := by decide +kernel
set_option maxRecDepth 100000 in
theorem kd_80 : ab_ckd cd_80 80 := ⟨by decide +kernel, ce_80, fun b hb => List.all_eq_true.mp cl_80 b hb⟩
