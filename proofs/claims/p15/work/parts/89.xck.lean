/-! ===== the contracts that tell more hold ===== -/
set_option maxRecDepth 100000 in
theorem xe_X11_feed_lo : ab_ce cx_X11_feed_lo 223 = true := by decide +kernel
set_option maxRecDepth 100000 in
theorem xl_X11_feed_lo : (ab_c cx_X11_feed_lo).all (ab_cc cx_X11_feed_lo 223) = true := by decide +kernel
set_option maxRecDepth 100000 in
theorem xo_X11_feed_lo : ab_ok cx_X11_feed_lo := ab_ok_of ⟨by decide +kernel, xe_X11_feed_lo, fun b hb => List.all_eq_true.mp xl_X11_feed_lo b hb⟩ (ab_all_ok 223 (Nat.le_refl 223))
set_option maxRecDepth 100000 in
theorem xe_X11_feed_hi : ab_ce cx_X11_feed_hi 223 = true := by decide +kernel
set_option maxRecDepth 100000 in
theorem xl_X11_feed_hi : (ab_c cx_X11_feed_hi).all (ab_cc cx_X11_feed_hi 223) = true := by decide +kernel
set_option maxRecDepth 100000 in
theorem xo_X11_feed_hi : ab_ok cx_X11_feed_hi := ab_ok_of ⟨by decide +kernel, xe_X11_feed_hi, fun b hb => List.all_eq_true.mp xl_X11_feed_hi b hb⟩ (ab_all_ok 223 (Nat.le_refl 223))
set_option maxRecDepth 100000 in
theorem xe_X11_end_neg : ab_ce cx_X11_end_neg 223 = true := by decide +kernel
set_option maxRecDepth 100000 in
theorem xl_X11_end_neg : (ab_c cx_X11_end_neg).all (ab_cc cx_X11_end_neg 223) = true := by decide +kernel
set_option maxRecDepth 100000 in
theorem xo_X11_end_neg : ab_ok cx_X11_end_neg := ab_ok_of ⟨by decide +kernel, xe_X11_end_neg, fun b hb => List.all_eq_true.mp xl_X11_end_neg b hb⟩ (ab_all_ok 223 (Nat.le_refl 223))
set_option maxRecDepth 100000 in
theorem xe_X11_end_big : ab_ce cx_X11_end_big 223 = true := by decide +kernel
set_option maxRecDepth 100000 in
theorem xl_X11_end_big : (ab_c cx_X11_end_big).all (ab_cc cx_X11_end_big 223) = true := by decide +kernel
set_option maxRecDepth 100000 in
theorem xo_X11_end_big : ab_ok cx_X11_end_big := ab_ok_of ⟨by decide +kernel, xe_X11_end_big, fun b hb => List.all_eq_true.mp xl_X11_end_big b hb⟩ (ab_all_ok 223 (Nat.le_refl 223))
set_option maxRecDepth 100000 in
theorem xe_X11_end_fit : ab_ce cx_X11_end_fit 223 = true := by decide +kernel
set_option maxRecDepth 100000 in
theorem xl_X11_end_fit : (ab_c cx_X11_end_fit).all (ab_cc cx_X11_end_fit 223) = true := by decide +kernel
set_option maxRecDepth 100000 in
theorem xo_X11_end_fit : ab_ok cx_X11_end_fit := ab_ok_of ⟨by decide +kernel, xe_X11_end_fit, fun b hb => List.all_eq_true.mp xl_X11_end_fit b hb⟩ (ab_all_ok 223 (Nat.le_refl 223))
set_option maxRecDepth 100000 in
theorem xe_X11_plain_z : ab_ce cx_X11_plain_z 223 = true := by decide +kernel
set_option maxRecDepth 100000 in
theorem xl_X11_plain_z : (ab_c cx_X11_plain_z).all (ab_cc cx_X11_plain_z 223) = true := by decide +kernel
set_option maxRecDepth 100000 in
theorem xo_X11_plain_z : ab_ok cx_X11_plain_z := ab_ok_of ⟨by decide +kernel, xe_X11_plain_z, fun b hb => List.all_eq_true.mp xl_X11_plain_z b hb⟩ (ab_all_ok 223 (Nat.le_refl 223))
set_option maxRecDepth 100000 in
theorem xe_X11_contracts_z : ab_ce cx_X11_contracts_z 223 = true := by decide +kernel
set_option maxRecDepth 100000 in
theorem xl_X11_contracts_z : (ab_c cx_X11_contracts_z).all (ab_cc cx_X11_contracts_z 223) = true := by decide +kernel
set_option maxRecDepth 100000 in
theorem xo_X11_contracts_z : ab_ok cx_X11_contracts_z := ab_ok_of ⟨by decide +kernel, xe_X11_contracts_z, fun b hb => List.all_eq_true.mp xl_X11_contracts_z b hb⟩ (ab_all_ok 223 (Nat.le_refl 223))
set_option maxRecDepth 100000 in
theorem xe_X11_sentence_z : ab_ce cx_X11_sentence_z 223 = true := by decide +kernel
set_option maxRecDepth 100000 in
theorem xl_X11_sentence_z : (ab_c cx_X11_sentence_z).all (ab_cc cx_X11_sentence_z 223) = true := by decide +kernel
set_option maxRecDepth 100000 in
theorem xo_X11_sentence_z : ab_ok cx_X11_sentence_z := ab_ok_of ⟨by decide +kernel, xe_X11_sentence_z, fun b hb => List.all_eq_true.mp xl_X11_sentence_z b hb⟩ (ab_all_ok 223 (Nat.le_refl 223))
set_option maxRecDepth 100000 in
theorem xe_X11_leaks_z : ab_ce cx_X11_leaks_z 223 = true := by decide +kernel
set_option maxRecDepth 100000 in
theorem xl_X11_leaks_z : (ab_c cx_X11_leaks_z).all (ab_cc cx_X11_leaks_z 223) = true := by decide +kernel
set_option maxRecDepth 100000 in
theorem xo_X11_leaks_z : ab_ok cx_X11_leaks_z := ab_ok_of ⟨by decide +kernel, xe_X11_leaks_z, fun b hb => List.all_eq_true.mp xl_X11_leaks_z b hb⟩ (ab_all_ok 223 (Nat.le_refl 223))
set_option maxRecDepth 100000 in
theorem xe_X12_feed_lo : ab_ce cx_X12_feed_lo 223 = true := by decide +kernel
set_option maxRecDepth 100000 in
theorem xl_X12_feed_lo : (ab_c cx_X12_feed_lo).all (ab_cc cx_X12_feed_lo 223) = true := by decide +kernel
set_option maxRecDepth 100000 in
theorem xo_X12_feed_lo : ab_ok cx_X12_feed_lo := ab_ok_of ⟨by decide +kernel, xe_X12_feed_lo, fun b hb => List.all_eq_true.mp xl_X12_feed_lo b hb⟩ (ab_all_ok 223 (Nat.le_refl 223))
set_option maxRecDepth 100000 in
theorem xe_X12_feed_hi : ab_ce cx_X12_feed_hi 223 = true := by decide +kernel
set_option maxRecDepth 100000 in
theorem xl_X12_feed_hi : (ab_c cx_X12_feed_hi).all (ab_cc cx_X12_feed_hi 223) = true := by decide +kernel
set_option maxRecDepth 100000 in
theorem xo_X12_feed_hi : ab_ok cx_X12_feed_hi := ab_ok_of ⟨by decide +kernel, xe_X12_feed_hi, fun b hb => List.all_eq_true.mp xl_X12_feed_hi b hb⟩ (ab_all_ok 223 (Nat.le_refl 223))
set_option maxRecDepth 100000 in
theorem xe_X12_end_neg : ab_ce cx_X12_end_neg 223 = true := by decide +kernel
set_option maxRecDepth 100000 in
theorem xl_X12_end_neg : (ab_c cx_X12_end_neg).all (ab_cc cx_X12_end_neg 223) = true := by decide +kernel
set_option maxRecDepth 100000 in
theorem xo_X12_end_neg : ab_ok cx_X12_end_neg := ab_ok_of ⟨by decide +kernel, xe_X12_end_neg, fun b hb => List.all_eq_true.mp xl_X12_end_neg b hb⟩ (ab_all_ok 223 (Nat.le_refl 223))
set_option maxRecDepth 100000 in
theorem xe_X12_end_big : ab_ce cx_X12_end_big 223 = true := by decide +kernel
set_option maxRecDepth 100000 in
theorem xl_X12_end_big : (ab_c cx_X12_end_big).all (ab_cc cx_X12_end_big 223) = true := by decide +kernel
set_option maxRecDepth 100000 in
theorem xo_X12_end_big : ab_ok cx_X12_end_big := ab_ok_of ⟨by decide +kernel, xe_X12_end_big, fun b hb => List.all_eq_true.mp xl_X12_end_big b hb⟩ (ab_all_ok 223 (Nat.le_refl 223))
set_option maxRecDepth 100000 in
theorem xe_X12_end_fit : ab_ce cx_X12_end_fit 223 = true := by decide +kernel
set_option maxRecDepth 100000 in
theorem xl_X12_end_fit : (ab_c cx_X12_end_fit).all (ab_cc cx_X12_end_fit 223) = true := by decide +kernel
set_option maxRecDepth 100000 in
theorem xo_X12_end_fit : ab_ok cx_X12_end_fit := ab_ok_of ⟨by decide +kernel, xe_X12_end_fit, fun b hb => List.all_eq_true.mp xl_X12_end_fit b hb⟩ (ab_all_ok 223 (Nat.le_refl 223))
set_option maxRecDepth 100000 in
theorem xe_X12_contracts_z : ab_ce cx_X12_contracts_z 223 = true := by decide +kernel
set_option maxRecDepth 100000 in
theorem xl_X12_contracts_z : (ab_c cx_X12_contracts_z).all (ab_cc cx_X12_contracts_z 223) = true := by decide +kernel
set_option maxRecDepth 100000 in
theorem xo_X12_contracts_z : ab_ok cx_X12_contracts_z := ab_ok_of ⟨by decide +kernel, xe_X12_contracts_z, fun b hb => List.all_eq_true.mp xl_X12_contracts_z b hb⟩ (ab_all_ok 223 (Nat.le_refl 223))
set_option maxRecDepth 100000 in
theorem xe_X12_leaks_z : ab_ce cx_X12_leaks_z 223 = true := by decide +kernel
set_option maxRecDepth 100000 in
theorem xl_X12_leaks_z : (ab_c cx_X12_leaks_z).all (ab_cc cx_X12_leaks_z 223) = true := by decide +kernel
set_option maxRecDepth 100000 in
theorem xo_X12_leaks_z : ab_ok cx_X12_leaks_z := ab_ok_of ⟨by decide +kernel, xe_X12_leaks_z, fun b hb => List.all_eq_true.mp xl_X12_leaks_z b hb⟩ (ab_all_ok 223 (Nat.le_refl 223))
set_option maxRecDepth 100000 in
theorem xe_X12_plain_a : ab_ce cx_X12_plain_a 223 = true := by decide +kernel
set_option maxRecDepth 100000 in
theorem xl_X12_plain_a : (ab_c cx_X12_plain_a).all (fun b => Nat.beq b.1 74 || ab_cc cx_X12_plain_a 223 b) = true := by decide +kernel
set_option maxRecDepth 100000 in
theorem xe_X12_isWord : ab_ce cx_X12_isWord 223 = true := by decide +kernel
set_option maxRecDepth 100000 in
theorem xl_X12_isWord : (ab_c cx_X12_isWord).all (ab_cc cx_X12_isWord 223) = true := by decide +kernel
set_option maxRecDepth 100000 in
theorem xo_X12_isWord : ab_ok cx_X12_isWord := ab_ok_of ⟨by decide +kernel, xe_X12_isWord, fun b hb => List.all_eq_true.mp xl_X12_isWord b hb⟩ (ab_all_ok 223 (Nat.le_refl 223))
set_option maxRecDepth 100000 in
theorem xe_X12_isSign : ab_ce cx_X12_isSign 223 = true := by decide +kernel
set_option maxRecDepth 100000 in
theorem xl_X12_isSign : (ab_c cx_X12_isSign).all (ab_cc cx_X12_isSign 223) = true := by decide +kernel
set_option maxRecDepth 100000 in
theorem xo_X12_isSign : ab_ok cx_X12_isSign := ab_ok_of ⟨by decide +kernel, xe_X12_isSign, fun b hb => List.all_eq_true.mp xl_X12_isSign b hb⟩ (ab_all_ok 223 (Nat.le_refl 223))
set_option maxRecDepth 100000 in
theorem xe_X12_leafOf : ab_ce cx_X12_leafOf 223 = true := by decide +kernel
set_option maxRecDepth 100000 in
theorem xl_X12_leafOf : (ab_c cx_X12_leafOf).all (ab_cc cx_X12_leafOf 223) = true := by decide +kernel
set_option maxRecDepth 100000 in
theorem xo_X12_leafOf : ab_ok cx_X12_leafOf := ab_ok_of ⟨by decide +kernel, xe_X12_leafOf, fun b hb => List.all_eq_true.mp xl_X12_leafOf b hb⟩ (ab_all_ok 223 (Nat.le_refl 223))
set_option maxRecDepth 100000 in
theorem xe_X12_bad : ab_ce cx_X12_bad 223 = true := by decide +kernel
set_option maxRecDepth 100000 in
theorem xl_X12_bad : (ab_c cx_X12_bad).all (ab_cc cx_X12_bad 223) = true := by decide +kernel
set_option maxRecDepth 100000 in
theorem xo_X12_bad : ab_ok cx_X12_bad := ab_ok_of ⟨by decide +kernel, xe_X12_bad, fun b hb => List.all_eq_true.mp xl_X12_bad b hb⟩ (ab_all_ok 223 (Nat.le_refl 223))
set_option maxRecDepth 100000 in
theorem xe_X12_taken : ab_ce cx_X12_taken 223 = true := by decide +kernel
set_option maxRecDepth 100000 in
theorem xl_X12_taken : (ab_c cx_X12_taken).all (ab_cc cx_X12_taken 223) = true := by decide +kernel
set_option maxRecDepth 100000 in
theorem xo_X12_taken : ab_ok cx_X12_taken := ab_ok_of ⟨by decide +kernel, xe_X12_taken, fun b hb => List.all_eq_true.mp xl_X12_taken b hb⟩ (ab_all_ok 223 (Nat.le_refl 223))
set_option maxRecDepth 100000 in
theorem xe_X12_next : ab_ce cx_X12_next 223 = true := by decide +kernel
set_option maxRecDepth 100000 in
theorem xl_X12_next : (ab_c cx_X12_next).all (ab_cc cx_X12_next 223) = true := by decide +kernel
set_option maxRecDepth 100000 in
theorem xo_X12_next : ab_ok cx_X12_next := ab_ok_of ⟨by decide +kernel, xe_X12_next, fun b hb => List.all_eq_true.mp xl_X12_next b hb⟩ (ab_all_ok 223 (Nat.le_refl 223))
set_option maxRecDepth 100000 in
theorem xe_X12_isLeaf : ab_ce cx_X12_isLeaf 223 = true := by decide +kernel
set_option maxRecDepth 100000 in
theorem xl_X12_isLeaf : (ab_c cx_X12_isLeaf).all (ab_cc cx_X12_isLeaf 223) = true := by decide +kernel
set_option maxRecDepth 100000 in
theorem xo_X12_isLeaf : ab_ok cx_X12_isLeaf := ab_ok_of ⟨by decide +kernel, xe_X12_isLeaf, fun b hb => List.all_eq_true.mp xl_X12_isLeaf b hb⟩ (ab_all_ok 223 (Nat.le_refl 223))
set_option maxRecDepth 100000 in
theorem xe_X12_isIn : ab_ce cx_X12_isIn 223 = true := by decide +kernel
set_option maxRecDepth 100000 in
theorem xl_X12_isIn : (ab_c cx_X12_isIn).all (ab_cc cx_X12_isIn 223) = true := by decide +kernel
set_option maxRecDepth 100000 in
theorem xo_X12_isIn : ab_ok cx_X12_isIn := ab_ok_of ⟨by decide +kernel, xe_X12_isIn, fun b hb => List.all_eq_true.mp xl_X12_isIn b hb⟩ (ab_all_ok 223 (Nat.le_refl 223))
set_option maxRecDepth 100000 in
theorem xe_X11_image_neg : ab_ce cx_X11_image_neg 223 = true := by decide +kernel
set_option maxRecDepth 100000 in
theorem xl_X11_image_neg : (ab_c cx_X11_image_neg).all (ab_cc cx_X11_image_neg 223) = true := by decide +kernel
set_option maxRecDepth 100000 in
theorem xo_X11_image_neg : ab_ok cx_X11_image_neg := ab_ok_of ⟨by decide +kernel, xe_X11_image_neg, fun b hb => List.all_eq_true.mp xl_X11_image_neg b hb⟩ (ab_all_ok 223 (Nat.le_refl 223))
set_option maxRecDepth 100000 in
theorem xe_X11_image_0 : ab_ce cx_X11_image_0 223 = true := by decide +kernel
set_option maxRecDepth 100000 in
theorem xl_X11_image_0 : (ab_c cx_X11_image_0).all (ab_cc cx_X11_image_0 223) = true := by decide +kernel
set_option maxRecDepth 100000 in
theorem xo_X11_image_0 : ab_ok cx_X11_image_0 := ab_ok_of ⟨by decide +kernel, xe_X11_image_0, fun b hb => List.all_eq_true.mp xl_X11_image_0 b hb⟩ (ab_all_ok 223 (Nat.le_refl 223))
set_option maxRecDepth 100000 in
theorem xe_X11_image_1 : ab_ce cx_X11_image_1 223 = true := by decide +kernel
set_option maxRecDepth 100000 in
theorem xl_X11_image_1 : (ab_c cx_X11_image_1).all (ab_cc cx_X11_image_1 223) = true := by decide +kernel
set_option maxRecDepth 100000 in
theorem xo_X11_image_1 : ab_ok cx_X11_image_1 := ab_ok_of ⟨by decide +kernel, xe_X11_image_1, fun b hb => List.all_eq_true.mp xl_X11_image_1 b hb⟩ (ab_all_ok 223 (Nat.le_refl 223))
set_option maxRecDepth 100000 in
theorem xe_X11_image_big : ab_ce cx_X11_image_big 223 = true := by decide +kernel
set_option maxRecDepth 100000 in
theorem xl_X11_image_big : (ab_c cx_X11_image_big).all (ab_cc cx_X11_image_big 223) = true := by decide +kernel
set_option maxRecDepth 100000 in
theorem xo_X11_image_big : ab_ok cx_X11_image_big := ab_ok_of ⟨by decide +kernel, xe_X11_image_big, fun b hb => List.all_eq_true.mp xl_X11_image_big b hb⟩ (ab_all_ok 223 (Nat.le_refl 223))
set_option maxRecDepth 100000 in
theorem xe_X11_restore_neg : ab_ce cx_X11_restore_neg 223 = true := by decide +kernel
set_option maxRecDepth 100000 in
theorem xl_X11_restore_neg : (ab_c cx_X11_restore_neg).all (ab_cc cx_X11_restore_neg 223) = true := by decide +kernel
set_option maxRecDepth 100000 in
theorem xo_X11_restore_neg : ab_ok cx_X11_restore_neg := ab_ok_of ⟨by decide +kernel, xe_X11_restore_neg, fun b hb => List.all_eq_true.mp xl_X11_restore_neg b hb⟩ (ab_all_ok 223 (Nat.le_refl 223))
set_option maxRecDepth 100000 in
theorem xe_X11_restore_big : ab_ce cx_X11_restore_big 223 = true := by decide +kernel
set_option maxRecDepth 100000 in
theorem xl_X11_restore_big : (ab_c cx_X11_restore_big).all (ab_cc cx_X11_restore_big 223) = true := by decide +kernel
set_option maxRecDepth 100000 in
theorem xo_X11_restore_big : ab_ok cx_X11_restore_big := ab_ok_of ⟨by decide +kernel, xe_X11_restore_big, fun b hb => List.all_eq_true.mp xl_X11_restore_big b hb⟩ (ab_all_ok 223 (Nat.le_refl 223))
set_option maxRecDepth 100000 in
theorem xe_X11_restore_00 : ab_ce cx_X11_restore_00 223 = true := by decide +kernel
set_option maxRecDepth 100000 in
theorem xl_X11_restore_00 : (ab_c cx_X11_restore_00).all (ab_cc cx_X11_restore_00 223) = true := by decide +kernel
set_option maxRecDepth 100000 in
theorem xo_X11_restore_00 : ab_ok cx_X11_restore_00 := ab_ok_of ⟨by decide +kernel, xe_X11_restore_00, fun b hb => List.all_eq_true.mp xl_X11_restore_00 b hb⟩ (ab_all_ok 223 (Nat.le_refl 223))
set_option maxRecDepth 100000 in
theorem xe_X11_restore_01 : ab_ce cx_X11_restore_01 223 = true := by decide +kernel
set_option maxRecDepth 100000 in
theorem xl_X11_restore_01 : (ab_c cx_X11_restore_01).all (ab_cc cx_X11_restore_01 223) = true := by decide +kernel
set_option maxRecDepth 100000 in
theorem xo_X11_restore_01 : ab_ok cx_X11_restore_01 := ab_ok_of ⟨by decide +kernel, xe_X11_restore_01, fun b hb => List.all_eq_true.mp xl_X11_restore_01 b hb⟩ (ab_all_ok 223 (Nat.le_refl 223))
set_option maxRecDepth 100000 in
theorem xe_X11_restore_10 : ab_ce cx_X11_restore_10 223 = true := by decide +kernel
set_option maxRecDepth 100000 in
theorem xl_X11_restore_10 : (ab_c cx_X11_restore_10).all (ab_cc cx_X11_restore_10 223) = true := by decide +kernel
set_option maxRecDepth 100000 in
theorem xo_X11_restore_10 : ab_ok cx_X11_restore_10 := ab_ok_of ⟨by decide +kernel, xe_X11_restore_10, fun b hb => List.all_eq_true.mp xl_X11_restore_10 b hb⟩ (ab_all_ok 223 (Nat.le_refl 223))
set_option maxRecDepth 100000 in
theorem xe_X11_restore_11 : ab_ce cx_X11_restore_11 223 = true := by decide +kernel
set_option maxRecDepth 100000 in
theorem xl_X11_restore_11 : (ab_c cx_X11_restore_11).all (ab_cc cx_X11_restore_11 223) = true := by decide +kernel
set_option maxRecDepth 100000 in
theorem xo_X11_restore_11 : ab_ok cx_X11_restore_11 := ab_ok_of ⟨by decide +kernel, xe_X11_restore_11, fun b hb => List.all_eq_true.mp xl_X11_restore_11 b hb⟩ (ab_all_ok 223 (Nat.le_refl 223))
