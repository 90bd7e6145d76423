/-! ===== the cheapest letting: the class, its small methods (laid by a program) ===== -/
def cp_lt : List (Nat × Nat × Nat) := [(125, 1001, 0), (126, 2100, 12), (127, 3100, 3), (128, 4100, 3), (129, 5104, 3), (130, 6100, 12), (131, 6100, 12), (132, 6100, 12), (133, 7104, 3), (134, 8100, 13), (135, 8100, 13), (136, 8100, 13), (137, 9100, 13), (138, 10104, 3), (139, 11100, 81), (140, 11100, 81), (141, 11100, 81), (142, 12100, 81), (143, 13100, 81), (144, 14100, 12), (145, 15100, 12)]
def cp_lr : List (Nat × Nat × Nat) := [(125, 0, 126), (125, 7, 127), (125, 8, 128), (125, 9, 129), (125, 10, 133), (125, 11, 137), (125, 12, 138), (125, 13, 142), (125, 14, 143), (125, 16, 144), (125, 17, 145), (129, 0, 130), (129, 1, 131), (129, 2, 132), (133, 0, 134), (133, 1, 135), (133, 2, 136), (138, 0, 139), (138, 1, 140), (138, 2, 141)]
def cp_GA (G : mj_G) (w : Nat → Nat) : Prop := (∀ i j, i < 361 → j < 361 → w i = w j → i = j) ∧ ∀ e ∈ cp_lt, G (w e.1) = (e.2.1, e.2.2)
def cp_BA (M : mj_M) (w : Nat → Nat) : Prop := ∀ e ∈ cp_lr, M.2.2 (w e.1) e.2.1 = some (w e.2.2)
section CG
variable {G : mj_G} {M M0 : mj_M} {w : Nat → Nat} {H : Nat → Int} {LA PA BE LA2 : Nat → Int} {bp v : Int} {j k a b i : Nat}
theorem cp_GA.g125 (h : cp_GA G w) : G (w 125) = (1001, 0) := h.2 (125, 1001, 0) (by decide)
theorem cp_GA.g126 (h : cp_GA G w) : G (w 126) = (2100, 12) := h.2 (126, 2100, 12) (by decide)
theorem cp_GA.g127 (h : cp_GA G w) : G (w 127) = (3100, 3) := h.2 (127, 3100, 3) (by decide)
theorem cp_GA.g128 (h : cp_GA G w) : G (w 128) = (4100, 3) := h.2 (128, 4100, 3) (by decide)
theorem cp_GA.g129 (h : cp_GA G w) : G (w 129) = (5104, 3) := h.2 (129, 5104, 3) (by decide)
theorem cp_GA.g130 (h : cp_GA G w) : G (w 130) = (6100, 12) := h.2 (130, 6100, 12) (by decide)
theorem cp_GA.g131 (h : cp_GA G w) : G (w 131) = (6100, 12) := h.2 (131, 6100, 12) (by decide)
theorem cp_GA.g132 (h : cp_GA G w) : G (w 132) = (6100, 12) := h.2 (132, 6100, 12) (by decide)
theorem cp_GA.g133 (h : cp_GA G w) : G (w 133) = (7104, 3) := h.2 (133, 7104, 3) (by decide)
theorem cp_GA.g134 (h : cp_GA G w) : G (w 134) = (8100, 13) := h.2 (134, 8100, 13) (by decide)
theorem cp_GA.g135 (h : cp_GA G w) : G (w 135) = (8100, 13) := h.2 (135, 8100, 13) (by decide)
theorem cp_GA.g136 (h : cp_GA G w) : G (w 136) = (8100, 13) := h.2 (136, 8100, 13) (by decide)
theorem cp_GA.g137 (h : cp_GA G w) : G (w 137) = (9100, 13) := h.2 (137, 9100, 13) (by decide)
theorem cp_GA.g138 (h : cp_GA G w) : G (w 138) = (10104, 3) := h.2 (138, 10104, 3) (by decide)
theorem cp_GA.g139 (h : cp_GA G w) : G (w 139) = (11100, 81) := h.2 (139, 11100, 81) (by decide)
theorem cp_GA.g140 (h : cp_GA G w) : G (w 140) = (11100, 81) := h.2 (140, 11100, 81) (by decide)
theorem cp_GA.g141 (h : cp_GA G w) : G (w 141) = (11100, 81) := h.2 (141, 11100, 81) (by decide)
theorem cp_GA.g142 (h : cp_GA G w) : G (w 142) = (12100, 81) := h.2 (142, 12100, 81) (by decide)
theorem cp_GA.g143 (h : cp_GA G w) : G (w 143) = (13100, 81) := h.2 (143, 13100, 81) (by decide)
theorem cp_GA.g144 (h : cp_GA G w) : G (w 144) = (14100, 12) := h.2 (144, 14100, 12) (by decide)
theorem cp_GA.g145 (h : cp_GA G w) : G (w 145) = (15100, 12) := h.2 (145, 15100, 12) (by decide)
theorem cp_BA.r125_0 (h : cp_BA M w) : M.2.2 (w 125) 0 = some (w 126) := h (125, 0, 126) (by decide)
theorem cp_BA.r125_7 (h : cp_BA M w) : M.2.2 (w 125) 7 = some (w 127) := h (125, 7, 127) (by decide)
theorem cp_BA.r125_8 (h : cp_BA M w) : M.2.2 (w 125) 8 = some (w 128) := h (125, 8, 128) (by decide)
theorem cp_BA.r125_9 (h : cp_BA M w) : M.2.2 (w 125) 9 = some (w 129) := h (125, 9, 129) (by decide)
theorem cp_BA.r125_10 (h : cp_BA M w) : M.2.2 (w 125) 10 = some (w 133) := h (125, 10, 133) (by decide)
theorem cp_BA.r125_11 (h : cp_BA M w) : M.2.2 (w 125) 11 = some (w 137) := h (125, 11, 137) (by decide)
theorem cp_BA.r125_12 (h : cp_BA M w) : M.2.2 (w 125) 12 = some (w 138) := h (125, 12, 138) (by decide)
theorem cp_BA.r125_13 (h : cp_BA M w) : M.2.2 (w 125) 13 = some (w 142) := h (125, 13, 142) (by decide)
theorem cp_BA.r125_14 (h : cp_BA M w) : M.2.2 (w 125) 14 = some (w 143) := h (125, 14, 143) (by decide)
theorem cp_BA.r125_16 (h : cp_BA M w) : M.2.2 (w 125) 16 = some (w 144) := h (125, 16, 144) (by decide)
theorem cp_BA.r125_17 (h : cp_BA M w) : M.2.2 (w 125) 17 = some (w 145) := h (125, 17, 145) (by decide)
theorem cp_BA.r129_0 (h : cp_BA M w) : M.2.2 (w 129) 0 = some (w 130) := h (129, 0, 130) (by decide)
theorem cp_BA.r129_1 (h : cp_BA M w) : M.2.2 (w 129) 1 = some (w 131) := h (129, 1, 131) (by decide)
theorem cp_BA.r129_2 (h : cp_BA M w) : M.2.2 (w 129) 2 = some (w 132) := h (129, 2, 132) (by decide)
theorem cp_BA.r133_0 (h : cp_BA M w) : M.2.2 (w 133) 0 = some (w 134) := h (133, 0, 134) (by decide)
theorem cp_BA.r133_1 (h : cp_BA M w) : M.2.2 (w 133) 1 = some (w 135) := h (133, 1, 135) (by decide)
theorem cp_BA.r133_2 (h : cp_BA M w) : M.2.2 (w 133) 2 = some (w 136) := h (133, 2, 136) (by decide)
theorem cp_BA.r138_0 (h : cp_BA M w) : M.2.2 (w 138) 0 = some (w 139) := h (138, 0, 139) (by decide)
theorem cp_BA.r138_1 (h : cp_BA M w) : M.2.2 (w 138) 1 = some (w 140) := h (138, 1, 140) (by decide)
theorem cp_BA.r138_2 (h : cp_BA M w) : M.2.2 (w 138) 2 = some (w 141) := h (138, 2, 141) (by decide)
theorem cp_GA.w130 (h : cp_GA G w) (hk : k < 3) : G (w (130 + k)) = (6100, 12) := by
  rcases (by omega : k = 0 ∨ k = 1 ∨ k = 2) with e | e | e <;> subst e
  · exact h.g130
  · exact h.g131
  · exact h.g132
theorem cp_BA.w130 (h : cp_BA M w) (hk : k < 3) : M.2.2 (w 129) k = some (w (130 + k)) := by
  rcases (by omega : k = 0 ∨ k = 1 ∨ k = 2) with e | e | e <;> subst e
  · exact h.r129_0
  · exact h.r129_1
  · exact h.r129_2
theorem cp_GA.w134 (h : cp_GA G w) (hk : k < 3) : G (w (134 + k)) = (8100, 13) := by
  rcases (by omega : k = 0 ∨ k = 1 ∨ k = 2) with e | e | e <;> subst e
  · exact h.g134
  · exact h.g135
  · exact h.g136
theorem cp_BA.w134 (h : cp_BA M w) (hk : k < 3) : M.2.2 (w 133) k = some (w (134 + k)) := by
  rcases (by omega : k = 0 ∨ k = 1 ∨ k = 2) with e | e | e <;> subst e
  · exact h.r133_0
  · exact h.r133_1
  · exact h.r133_2
theorem cp_GA.w139 (h : cp_GA G w) (hk : k < 3) : G (w (139 + k)) = (11100, 81) := by
  rcases (by omega : k = 0 ∨ k = 1 ∨ k = 2) with e | e | e <;> subst e
  · exact h.g139
  · exact h.g140
  · exact h.g141
theorem cp_BA.w139 (h : cp_BA M w) (hk : k < 3) : M.2.2 (w 138) k = some (w (139 + k)) := by
  rcases (by omega : k = 0 ∨ k = 1 ∨ k = 2) with e | e | e <;> subst e
  · exact h.r138_0
  · exact h.r138_1
  · exact h.r138_2
theorem cp_GA.ne (h : cp_GA G w) (hi : a < 361) (hj : b < 361) (e : a ≠ b) : w a ≠ w b := fun q => e (h.1 a b hi hj q)
abbrev cc_ne (w : Nat → Nat) (a : Nat) : Prop := a ≠ w 125 ∧ a ≠ w 128 ∧ a ≠ w 144 ∧ a ≠ w 145
theorem cp_GA.nn (h : cp_GA G w) (hi : i < 361) (e : i ≠ 125 ∧ i ≠ 128 ∧ i ≠ 144 ∧ i ≠ 145) : cc_ne w (w i) := ⟨h.ne hi (by decide) e.1, h.ne hi (by decide) e.2.1, h.ne hi (by decide) e.2.2.1, h.ne hi (by decide) e.2.2.2⟩
theorem cp_GA.n127 (h : cp_GA G w) : cc_ne w (w 127) := h.nn (by decide) (by decide)
theorem cp_GA.n137 (h : cp_GA G w) : cc_ne w (w 137) := h.nn (by decide) (by decide)
theorem cp_GA.n142 (h : cp_GA G w) : cc_ne w (w 142) := h.nn (by decide) (by decide)
theorem cp_GA.n143 (h : cp_GA G w) : cc_ne w (w 143) := h.nn (by decide) (by decide)
theorem cp_GA.n130 (h : cp_GA G w) (hk : k < 3) : cc_ne w (w (130 + k)) := h.nn (by omega) (by omega)
theorem cp_GA.n134 (h : cp_GA G w) (hk : k < 3) : cc_ne w (w (134 + k)) := h.nn (by omega) (by omega)
theorem cp_GA.n139 (h : cp_GA G w) (hk : k < 3) : cc_ne w (w (139 + k)) := h.nn (by omega) (by omega)
/-- what is laid out ahead of the search -/
def cc_K (H : Nat → Int) (M : mj_M) (w : Nat → Nat) : Prop := M.1 (w 125) 5 = H 0 ∧ M.1 (w 125) 6 = H 1 ∧ M.1 (w 125) 15 = ((cs_t H ^ 4 : Nat) : Int) ∧ (∀ k, k < cs_t H → M.1 (w 127) k = H (10 + 9 * k)) ∧ (∀ k j, k < cs_t H → j < 12 → M.1 (w (130 + k)) j = cs_gain H k j) ∧ (∀ k j, k < cs_t H → j ≤ 12 → M.1 (w (134 + k)) j = cs_all H k (12 - j) j) ∧ (∀ j, j ≤ 12 → M.1 (w 137) j = cs_bestof H (12 - j) j) ∧ (∀ k i, k < cs_t H → i < cs_t H ^ 4 → M.1 (w (139 + k)) i = cw_g H k 4 8 i) ∧ (∀ i, i < cs_t H ^ 4 → M.1 (w 142) i = cw_c H 4 i) ∧ (∀ i, i < cs_t H ^ 4 → M.1 (w 143) i = ((i / cs_t H ^ 3 : Nat) : Int))
theorem cc_K.br (h : cc_K H M w) (hk : k < cs_t H) : M.1 (w 127) k = H (10 + 9 * k) := h.2.2.2.1 k hk
theorem cc_K.gn (h : cc_K H M w) (hk : k < cs_t H) (hj : j < 12) : M.1 (w (130 + k)) j = cs_gain H k j := h.2.2.2.2.1 k j hk hj
theorem cc_K.rs (h : cc_K H M w) (hk : k < cs_t H) (hj : j ≤ 12) : M.1 (w (134 + k)) j = cs_all H k (12 - j) j := h.2.2.2.2.2.1 k j hk hj
theorem cc_K.rb (h : cc_K H M w) (hj : j ≤ 12) : M.1 (w 137) j = cs_bestof H (12 - j) j := h.2.2.2.2.2.2.1 j hj
theorem cc_K.tg (h : cc_K H M w) (hk : k < cs_t H) (hi : i < cs_t H ^ 4) : M.1 (w (139 + k)) i = cw_g H k 4 8 i := h.2.2.2.2.2.2.2.1 k i hk hi
theorem cc_K.tc (h : cc_K H M w) (hi : i < cs_t H ^ 4) : M.1 (w 142) i = cw_c H 4 i := h.2.2.2.2.2.2.2.2.1 i hi
theorem cc_K.tt (h : cc_K H M w) (hi : i < cs_t H ^ 4) : M.1 (w 143) i = ((i / cs_t H ^ 3 : Nat) : Int) := h.2.2.2.2.2.2.2.2.2 i hi
/-- the class amid the search -/
def cc_C (w : Nat → Nat) (M0 : mj_M) (LA PA BE : Nat → Int) (bp : Int) (M : mj_M) : Prop := M.2 = M0.2 ∧ (∀ a, cc_ne w a → M.1 a = M0.1 a) ∧ (∀ k, k ≠ 18 → M.1 (w 125) k = M0.1 (w 125) k) ∧ M.1 (w 125) 18 = bp ∧ (∀ k, k < 3 → M.1 (w 128) k = LA k) ∧ (∀ k, k < 12 → M.1 (w 144) k = PA k) ∧ (∀ k, k < 12 → M.1 (w 145) k = BE k)
theorem cc_C.re : cc_C w M (M.1 (w 128)) (M.1 (w 144)) (M.1 (w 145)) (M.1 (w 125) 18) M := ⟨rfl, fun _ _ => rfl, fun _ _ => rfl, rfl, fun _ _ => rfl, fun _ _ => rfl, fun _ _ => rfl⟩
theorem cc_C.r (h : cc_C w M0 LA PA BE bp M) (e : M0.2.2 a k = some b) : M.2.2 a k = some b := by rw [h.1]; exact e
theorem cc_C.o (h : cc_C w M0 LA PA BE bp M) (n : cc_ne w a) : M.1 a k = M0.1 a k := by rw [h.2.1 a n]
theorem cc_C.la (h : cc_C w M0 LA PA BE bp M) (e : ∀ k, k < 3 → LA k = LA2 k) : cc_C w M0 LA2 PA BE bp M := ⟨h.1, h.2.1, h.2.2.1, h.2.2.2.1, fun k hk => (h.2.2.2.2.1 k hk).trans (e k hk), h.2.2.2.2.2⟩
theorem cc_C.h18 (h : cc_C w M0 LA PA BE bp M) (ga : cp_GA G w) : cc_C w M0 LA PA BE v (mj_p0 M (w 125) 18 v) :=
  ⟨h.1, fun a n => (wz_c n.1).trans (h.2.1 a n), fun k hk => (hn_n (Or.inr hk)).trans (h.2.2.1 k hk), hn_s, fun k hk => (hn_n (Or.inl (ga.ne (by decide) (by decide) (by decide)))).trans (h.2.2.2.2.1 k hk), fun k hk => (hn_n (Or.inl (ga.ne (by decide) (by decide) (by decide)))).trans (h.2.2.2.2.2.1 k hk), fun k hk => (hn_n (Or.inl (ga.ne (by decide) (by decide) (by decide)))).trans (h.2.2.2.2.2.2 k hk)⟩
theorem cc_C.h128 (h : cc_C w M0 LA PA BE bp M) (ga : cp_GA G w) : cc_C w M0 (rv_up LA j v) PA BE bp (mj_p0 M (w 128) j v) :=
  ⟨h.1, fun a n => (wz_c n.2.1).trans (h.2.1 a n), fun k hk => (hn_n (Or.inl (ga.ne (by decide) (by decide) (by decide)))).trans (h.2.2.1 k hk), (hn_n (Or.inl (ga.ne (by decide) (by decide) (by decide)))).trans h.2.2.2.1, cp_up h.2.2.2.2.1, fun k hk => (hn_n (Or.inl (ga.ne (by decide) (by decide) (by decide)))).trans (h.2.2.2.2.2.1 k hk), fun k hk => (hn_n (Or.inl (ga.ne (by decide) (by decide) (by decide)))).trans (h.2.2.2.2.2.2 k hk)⟩
theorem cc_C.h144 (h : cc_C w M0 LA PA BE bp M) (ga : cp_GA G w) : cc_C w M0 LA (rv_up PA j v) BE bp (mj_p0 M (w 144) j v) :=
  ⟨h.1, fun a n => (wz_c n.2.2.1).trans (h.2.1 a n), fun k hk => (hn_n (Or.inl (ga.ne (by decide) (by decide) (by decide)))).trans (h.2.2.1 k hk), (hn_n (Or.inl (ga.ne (by decide) (by decide) (by decide)))).trans h.2.2.2.1, fun k hk => (hn_n (Or.inl (ga.ne (by decide) (by decide) (by decide)))).trans (h.2.2.2.2.1 k hk), cp_up h.2.2.2.2.2.1, fun k hk => (hn_n (Or.inl (ga.ne (by decide) (by decide) (by decide)))).trans (h.2.2.2.2.2.2 k hk)⟩
theorem cc_C.h145 (h : cc_C w M0 LA PA BE bp M) (ga : cp_GA G w) : cc_C w M0 LA PA (rv_up BE j v) bp (mj_p0 M (w 145) j v) :=
  ⟨h.1, fun a n => (wz_c n.2.2.2).trans (h.2.1 a n), fun k hk => (hn_n (Or.inl (ga.ne (by decide) (by decide) (by decide)))).trans (h.2.2.1 k hk), (hn_n (Or.inl (ga.ne (by decide) (by decide) (by decide)))).trans h.2.2.2.1, fun k hk => (hn_n (Or.inl (ga.ne (by decide) (by decide) (by decide)))).trans (h.2.2.2.2.1 k hk), fun k hk => (hn_n (Or.inl (ga.ne (by decide) (by decide) (by decide)))).trans (h.2.2.2.2.2.1 k hk), cp_up h.2.2.2.2.2.2⟩
end CG
theorem r_X0_costOf {G : mj_G} {M0 : mj_M} {w : Nat → Nat} {H : Nat → Int} {Q : mj_P} {d : Nat} (ga : cp_GA G w) (gb : cp_BA M0 w) (hK : cc_K H M0 w) (hr : rv_r4 H 0) (t1 : 1 ≤ H 0) (t3 : H 0 ≤ 3) {M : mj_M} {LA PA BE : Nat → Int} {bp : Int} (hC : cc_C w M0 LA PA BE bp M) {fr to : Int} (f0 : 0 ≤ fr) (f3 : fr ≤ H 0) (t0 : 0 ≤ to) (tt : to < H 0) (h : Q (some (.inl (cs_cost H fr.toNat to.toNat))) G M) : mj_R mj_tab (d + 1) 1 [.inr (.inr (some (w 125))), .inl fr, .inl to] G M Q := by
  have et := cs_te hr
  have b1 := cs_r1 hr
  have tb := cs_rt hr (j := (9 * to + 10).toNat) (by omega) (by omega)
  have eb9 : 10 + 9 * to.toNat = (9 * to + 10).toNat := by omega
  refine ⟨Nat.le_of_ble_eq_true rfl, ?_⟩
  show wz d mt_X0_costOf.2.2.2.2.1 Q mt_X0_costOf.2.2.2.2.1 [some (.inr (.inr (some (w 125)))), some (.inl fr), some (.inl to)] [] G M _ _
  refine w_iln rfl ?_
  refine w_iln rfl ?_
  refine w_cmne (fun c1 => ?_) (fun c1 => ?_)
  · skip
    refine w_aln rfl ?_
    refine w_gi ga.g125 rfl (by decide) rfl ((hC.2.2.1 6 (by decide)).trans hK.2.1) ?_
    refine w_iln rfl ?_
    refine w_iln rfl ?_
    refine w_sub ⟨by show (-2147483648 : Int) ≤ fr - to; omega, by show fr - to < (2147483648 : Int); omega⟩ ?_
    refine w_abs (Nat.le_of_ble_eq_true rfl) ?_
    intro z2 fz2 gz2
    have mb3 := cs_mul_b (u := (H 1)) (z := z2) (n := 3) (by omega) (by omega) (by omega) (by omega)
    refine w_mul ⟨by show (-2147483648 : Int) ≤ (H 1) * z2; omega, by show (H 1) * z2 < (2147483648 : Int); omega⟩ ?_
    refine w_aln rfl ?_
    refine w_gr ga.g125 rfl (by decide) rfl (hC.r (gb.r125_7)) ?_
    refine w_iln rfl ?_
    refine w_iald (v := (H (9 * to + 10).toNat)) ga.g127 rfl (by show (0 : Int) ≤ to; omega) (by show to < ((3 : Nat) : Int); omega) ((hC.o ga.n127).trans ((hK.br (by omega)).trans (congrArg H (by omega)))) ?_
    refine w_add ⟨by show (-2147483648 : Int) ≤ ((H 1) * z2) + (H (9 * to + 10).toNat); omega, by show ((H 1) * z2) + (H (9 * to + 10).toNat) < (2147483648 : Int); omega⟩ ?_
    have ev : ((H 1) * z2) + (H (9 * to + 10).toNat) = cs_cost H fr.toNat to.toNat := cs_cost_i (z := z2) (by unfold cs_d; split <;> omega) (by rw [if_pos ⟨by omega, by omega⟩, eb9])
    exact w_iret (fun q => by cases q) (by rw [ev]; exact h)
  · skip
    refine w_ic ?_
    refine w_goto ?_
    have ev : (0 : Int) = cs_cost H fr.toNat to.toNat := by rw [show fr.toNat = to.toNat by omega, cs_cost_s]
    exact w_iret (fun q => by cases q) (by rw [ev]; exact h)
theorem r_la {G : mj_G} {M0 : mj_M} {w : Nat → Nat} {H : Nat → Int} {Q : mj_P} {d : Nat} (ga : cp_GA G w) (gb : cp_BA M0 w) (hK : cc_K H M0 w) (hr : rv_r4 H 0) (t1 : 1 ≤ H 0) (t3 : H 0 ≤ 3) {M : mj_M} {LA PA BE : Nat → Int} {bp : Int} (hC : cc_C w M0 LA PA BE bp M) (h1 : (∃ k, k < cs_t H ∧ 0 < LA k) → Q (some (.inl 1)) G M) (h0 : cs_met H LA → Q (some (.inl 0)) G M) : ∀ (n : Nat) (k : Int) (cb sb : Nat), k + n = H 0 → 0 ≤ k → (∀ j : Nat, (j : Int) < k → LA j ≤ 0) → wz d mt_X0_lacksAny.2.2.2.2.1 Q (mt_X0_lacksAny.2.2.2.2.1.drop 2) [some (.inr (.inr (some (w 125)))), some (.inl k)] [] G M cb sb := by
  have et := cs_te hr
  have b1 := cs_r1 hr
  intro n
  induction n with
  | zero =>
    intro k cb sb e k0 hk
    refine w_iln rfl ?_
    refine w_aln rfl ?_
    refine w_gi ga.g125 rfl (by decide) rfl ((hC.2.2.1 5 (by decide)).trans hK.1) ?_
    refine w_cmge (fun c1 => ?_) (fun c1 => ?_)
    · skip
      refine w_ic ?_
      exact w_iret (fun _ => Or.inl rfl) (h0 (fun j hj => hk j (by omega)))
    · exfalso; omega
  | succ n ih =>
    intro k cb sb e k0 hk
    refine w_iln rfl ?_
    refine w_aln rfl ?_
    refine w_gi ga.g125 rfl (by decide) rfl ((hC.2.2.1 5 (by decide)).trans hK.1) ?_
    refine w_cmge (fun c1 => ?_) (fun c1 => ?_)
    · exfalso; omega
    · skip
      refine w_aln rfl ?_
      refine w_gr ga.g125 rfl (by decide) rfl (hC.r (gb.r125_8)) ?_
      refine w_iln rfl ?_
      refine w_iald (v := (LA k.toNat)) ga.g128 rfl (by show (0 : Int) ≤ k; omega) (by show k < ((3 : Nat) : Int); omega) (hC.2.2.2.2.1 _ (by show k.toNat < 3; omega)) ?_
      refine w_ifle (fun c2 => ?_) (fun c2 => ?_)
      · skip
        refine w_ii rfl ⟨by show (-2147483648 : Int) ≤ k + 1; omega, by show k + 1 < (2147483648 : Int); omega⟩ ?_
        show wz _ _ _ _ [some (.inr (.inr (some (w 125)))), some (.inl (k + 1))] _ _ _ _ _
        refine w_goto ?_
        exact ih (k + 1) _ _ (by omega) (by omega) (fun j hj => by
                  by_cases ej : (j : Int) = k
                  · have e2 : j = k.toNat := by omega
                    subst e2; omega
                  · exact hk j (by omega))
      · skip
        refine w_ic ?_
        exact w_iret (fun _ => Or.inr rfl) (h1 ⟨k.toNat, by omega, by omega⟩)
theorem r_X0_lacksAny {G : mj_G} {M0 : mj_M} {w : Nat → Nat} {H : Nat → Int} {Q : mj_P} {d : Nat} (ga : cp_GA G w) (gb : cp_BA M0 w) (hK : cc_K H M0 w) (hr : rv_r4 H 0) (t1 : 1 ≤ H 0) (t3 : H 0 ≤ 3) {M : mj_M} {LA PA BE : Nat → Int} {bp : Int} (hC : cc_C w M0 LA PA BE bp M) (h1 : (∃ k, k < cs_t H ∧ 0 < LA k) → Q (some (.inl 1)) G M) (h0 : cs_met H LA → Q (some (.inl 0)) G M) : mj_R mj_tab (d + 1) 6 [.inr (.inr (some (w 125)))] G M Q := by
  have et := cs_te hr
  refine ⟨Nat.le_of_ble_eq_true rfl, ?_⟩
  show wz d mt_X0_lacksAny.2.2.2.2.1 Q mt_X0_lacksAny.2.2.2.2.1 [some (.inr (.inr (some (w 125)))), none] [] G M _ _
  refine w_ic ?_
  refine w_isn ?_
  exact r_la ga gb hK hr t1 t3 hC h1 h0 (cs_t H) 0 _ _ (by omega) (by decide) (fun j hj => absurd hj (by omega))
theorem cs_bo_9 {H : Nat → Int} (h : rv_r4 H 0) : ∀ (r m : Nat), m + r ≤ 12 → 0 ≤ cs_bestof H r m ∧ cs_bestof H r m ≤ 999 * r
  | 0, _, _ => ⟨Int.le_refl _, Int.le_refl _⟩
  | r + 1, m, e => by
    have h1 := cs_bo_9 h r (m + 1) (by omega)
    have h2 : ∀ n, n ≤ 8 → 0 ≤ cs_most H m n ∧ cs_most H m n ≤ 999 := by
      intro n
      induction n with
      | zero => exact fun _ => ⟨Int.le_refl _, by show (0 : Int) ≤ 999; decide⟩
      | succ n ih =>
        intro hn
        have h3 := ih (by omega)
        have h4 := cs_gain_9 h (k := n) (m := m) (by omega) (by omega)
        show 0 ≤ max (cs_most H m n) (cs_gain H n m) ∧ max (cs_most H m n) (cs_gain H n m) ≤ 999
        omega
    have h3 := h2 (cs_t H) (by have := cs_te h; have := h.1; omega)
    show 0 ≤ cs_bestof H r (m + 1) + cs_most H m (cs_t H) ∧ cs_bestof H r (m + 1) + cs_most H m (cs_t H) ≤ _
    omega
theorem r_cb2 {G : mj_G} {M0 : mj_M} {w : Nat → Nat} {H : Nat → Int} {Q : mj_P} {d : Nat} (ga : cp_GA G w) (gb : cp_BA M0 w) (hK : cc_K H M0 w) (hr : rv_r4 H 0) (t1 : 1 ≤ H 0) (t3 : H 0 ≤ 3) {M : mj_M} {LA PA BE : Nat → Int} {bp : Int} (hC : cc_C w M0 LA PA BE bp M) {mi : Int} (m0 : 0 ≤ mi) (m12 : mi ≤ 12) (hl : ∀ k : Nat, (k : Int) < H 0 → -20000 ≤ LA k ∧ LA k ≤ 20000) (h1 : Q (some (.inl 1)) G M) (h0 : ((∃ k, k < cs_t H ∧ cs_all H k (12 - mi.toNat) mi.toNat < LA k) ∨ cs_bestof H (12 - mi.toNat) mi.toNat < cs_sum LA (cs_t H)) → Q (some (.inl 0)) G M) : ∀ (n : Nat) (k : Int) (al : Int) (cb sb : Nat), k + n = H 0 → 0 ≤ k → al = cs_sum LA k.toNat → 0 ≤ al → al ≤ 20000 * k → wz d mt_X0_canBe.2.2.2.2.1 Q (mt_X0_canBe.2.2.2.2.1.drop 4) [some (.inr (.inr (some (w 125)))), some (.inl mi), some (.inl al), some (.inl k)] [] G M cb sb := by
  have et := cs_te hr
  have b1 := cs_r1 hr
  have bo := cs_bo_9 hr (12 - mi.toNat) mi.toNat (by omega)
  intro n
  induction n with
  | zero =>
    intro k al cb sb e k0 eal a0 a1
    refine w_iln rfl ?_
    refine w_aln rfl ?_
    refine w_gi ga.g125 rfl (by decide) rfl ((hC.2.2.1 5 (by decide)).trans hK.1) ?_
    refine w_cmge (fun c1 => ?_) (fun c1 => ?_)
    · skip
      refine w_iln rfl ?_
      refine w_aln rfl ?_
      refine w_gr ga.g125 rfl (by decide) rfl (hC.r (gb.r125_11)) ?_
      refine w_iln rfl ?_
      refine w_iald (v := (cs_bestof H (12 - mi.toNat) mi.toNat)) ga.g137 rfl (by show (0 : Int) ≤ mi; omega) (by show mi < ((13 : Nat) : Int); omega) ((hC.o ga.n137).trans (hK.rb (by omega))) ?_
      refine w_cmgt (fun c2 => ?_) (fun c2 => ?_)
      · skip
        refine w_ic ?_
        exact w_iret (fun _ => Or.inl rfl) (h0 (Or.inr (by rw [show cs_t H = k.toNat by omega, ← eal]; omega)))
      · skip
        refine w_ic ?_
        refine w_goto ?_
        exact w_iret (fun _ => Or.inr rfl) h1
    · exfalso; omega
  | succ n ih =>
    intro k al cb sb e k0 eal a0 a1
    have lk := hl k.toNat (by omega)
    have ak := cs_all_9 hr (k := k.toNat) (by omega) (12 - mi.toNat) mi.toNat (by omega)
    refine w_iln rfl ?_
    refine w_aln rfl ?_
    refine w_gi ga.g125 rfl (by decide) rfl ((hC.2.2.1 5 (by decide)).trans hK.1) ?_
    refine w_cmge (fun c1 => ?_) (fun c1 => ?_)
    · exfalso; omega
    · skip
      refine w_aln rfl ?_
      refine w_gr ga.g125 rfl (by decide) rfl (hC.r (gb.r125_8)) ?_
      refine w_iln rfl ?_
      refine w_iald (v := (LA k.toNat)) ga.g128 rfl (by show (0 : Int) ≤ k; omega) (by show k < ((3 : Nat) : Int); omega) (hC.2.2.2.2.1 _ (by show k.toNat < 3; omega)) ?_
      refine w_aln rfl ?_
      refine w_gr ga.g125 rfl (by decide) rfl (hC.r (gb.r125_10)) ?_
      refine w_iln rfl ?_
      refine w_aald ga.g133 rfl (by show (0 : Int) ≤ k; omega) (by show k < ((3 : Nat) : Int); omega) (hC.r (gb.w134 (by show k.toNat < 3; omega))) ?_
      refine w_iln rfl ?_
      refine w_iald (v := (cs_all H k.toNat (12 - mi.toNat) mi.toNat)) (ga.w134 (by show k.toNat < 3; omega)) rfl (by show (0 : Int) ≤ mi; omega) (by show mi < ((13 : Nat) : Int); omega) ((hC.o (ga.n134 (by omega))).trans (hK.rs (by omega) (by omega))) ?_
      refine w_cmle (fun c2 => ?_) (fun c2 => ?_)
      · skip
        refine w_iln rfl ?_
        refine w_ic ?_
        refine w_aln rfl ?_
        refine w_gr ga.g125 rfl (by decide) rfl (hC.r (gb.r125_8)) ?_
        refine w_iln rfl ?_
        refine w_iald (v := (LA k.toNat)) ga.g128 rfl (by show (0 : Int) ≤ k; omega) (by show k < ((3 : Nat) : Int); omega) (hC.2.2.2.2.1 _ (by show k.toNat < 3; omega)) ?_
        refine w_max (Nat.le_of_ble_eq_true rfl) ?_
        intro z3 fz3 gz3
        refine w_add ⟨by show (-2147483648 : Int) ≤ al + z3; omega, by show al + z3 < (2147483648 : Int); omega⟩ ?_
        refine w_isn ?_
        show wz _ _ _ _ [some (.inr (.inr (some (w 125)))), some (.inl mi), some (.inl (al + z3)), some (.inl k)] _ _ _ _ _
        refine w_ii rfl ⟨by show (-2147483648 : Int) ≤ k + 1; omega, by show k + 1 < (2147483648 : Int); omega⟩ ?_
        show wz _ _ _ _ [some (.inr (.inr (some (w 125)))), some (.inl mi), some (.inl (al + z3)), some (.inl (k + 1))] _ _ _ _ _
        refine w_goto ?_
        refine ih (k + 1) _ _ _ (by omega) (by omega) ?_ (by omega) (by omega)
        rw [show (k + 1).toNat = k.toNat + 1 by omega]
        show al + z3 = cs_sum LA k.toNat + max 0 (LA k.toNat)
        omega
      · skip
        refine w_ic ?_
        exact w_iret (fun _ => Or.inl rfl) (h0 (Or.inl ⟨k.toNat, by omega, by omega⟩))
theorem r_X0_canBe {G : mj_G} {M0 : mj_M} {w : Nat → Nat} {H : Nat → Int} {Q : mj_P} {d : Nat} (ga : cp_GA G w) (gb : cp_BA M0 w) (hK : cc_K H M0 w) (hr : rv_r4 H 0) (t1 : 1 ≤ H 0) (t3 : H 0 ≤ 3) {M : mj_M} {LA PA BE : Nat → Int} {bp : Int} (hC : cc_C w M0 LA PA BE bp M) {mi : Int} (m0 : 0 ≤ mi) (m12 : mi ≤ 12) (hl : ∀ k : Nat, (k : Int) < H 0 → -20000 ≤ LA k ∧ LA k ≤ 20000) (h1 : Q (some (.inl 1)) G M) (h0 : ((∃ k, k < cs_t H ∧ cs_all H k (12 - mi.toNat) mi.toNat < LA k) ∨ cs_bestof H (12 - mi.toNat) mi.toNat < cs_sum LA (cs_t H)) → Q (some (.inl 0)) G M) : mj_R mj_tab (d + 1) 0 [.inr (.inr (some (w 125))), .inl mi] G M Q := by
  have et := cs_te hr
  refine ⟨Nat.le_of_ble_eq_true rfl, ?_⟩
  show wz d mt_X0_canBe.2.2.2.2.1 Q mt_X0_canBe.2.2.2.2.1 [some (.inr (.inr (some (w 125)))), some (.inl mi), none, none] [] G M _ _
  refine w_ic ?_
  refine w_isn ?_
  refine w_ic ?_
  refine w_isn ?_
  exact r_cb2 ga gb hK hr t1 t3 hC m0 m12 hl h1 h0 (cs_t H) 0 0 _ _ (by omega) (by decide) rfl (by decide) (by decide)
theorem cs_bk_9 (b : Nat → Bool) (a : Nat) : ∀ n, cs_bk b a n ≤ a
  | 0 => Nat.zero_le _
  | n + 1 => by
    have := cs_bk_9 b a n
    show (if b n = true then max (cs_bk b a n) (a - n) else cs_bk b a n) ≤ a
    split <;> omega
theorem cs_ah_9 (b : Nat → Bool) (a : Nat) : ∀ n, cs_ah b a n ≤ n
  | 0 => Nat.zero_le _
  | n + 1 => by
    have := cs_ah_9 b a n
    show (if b n = true then max (cs_ah b a n) (n - a) else cs_ah b a n) ≤ n + 1
    split <;> omega
theorem cs_LB_9 {H : Nat → Int} (h : rv_r4 H 0) (h3 : H 0 ≤ 3) {b : Nat → Bool} {a : Nat} (ha : a ≤ cs_t H) : 0 ≤ cs_LB H b a ∧ cs_LB H b a ≤ 3888 := by
  have e := cs_te h
  have b1 := cs_r1 h
  have x1 := cs_bk_9 b a (cs_t H)
  have x2 := cs_ah_9 b a (cs_t H)
  have x3 : cs_far b a (cs_t H) ≤ 9 := by unfold cs_far; omega
  have x4 := cs_mul_b b1.1 b1.2 (z := ((cs_far b a (cs_t H) : Nat) : Int)) (n := 9) (by omega) (by omega)
  have x5 : ∀ n, n ≤ cs_t H → 0 ≤ cs_tp H b a n ∧ cs_tp H b a n ≤ 999 * n := by
    intro n
    induction n with
    | zero => exact fun _ => ⟨Int.le_refl _, Int.le_refl _⟩
    | succ n ih =>
      intro hn
      have h3 := ih (by omega)
      have h4 := cs_rt h (j := 10 + 9 * n) (by omega) (by omega)
      show 0 ≤ cs_tp H b a n + _ ∧ cs_tp H b a n + _ ≤ _
      split <;> omega
  have x6 := x5 _ (Nat.le_refl _)
  unfold cs_LB
  omega
theorem r_lc {G : mj_G} {M0 : mj_M} {w : Nat → Nat} {H : Nat → Int} {Q : mj_P} {d : Nat} (ga : cp_GA G w) (gb : cp_BA M0 w) (hK : cc_K H M0 w) (hr : rv_r4 H 0) (t1 : 1 ≤ H 0) (t3 : H 0 ≤ 3) {M : mj_M} {LA PA BE : Nat → Int} {bp : Int} (hC : cc_C w M0 LA PA BE bp M) {at_ : Int} (a0 : 0 ≤ at_) (a3 : at_ ≤ H 0) (h : Q (some (.inl (cs_LB H (cs_b LA) at_.toNat))) G M) : ∀ (n : Nat) (k bk ah tp : Int) (cb sb : Nat), k + n = H 0 → 0 ≤ k → bk = ((cs_bk (cs_b LA) at_.toNat k.toNat : Nat) : Int) → ah = ((cs_ah (cs_b LA) at_.toNat k.toNat : Nat) : Int) → tp = cs_tp H (cs_b LA) at_.toNat k.toNat → 0 ≤ tp → tp ≤ 999 * k → wz d mt_X0_leastToCome.2.2.2.2.1 Q (mt_X0_leastToCome.2.2.2.2.1.drop 8) [some (.inr (.inr (some (w 125)))), some (.inl at_), some (.inl bk), some (.inl ah), some (.inl tp), some (.inl k)] [] G M cb sb := by
  have et := cs_te hr
  have b1 := cs_r1 hr
  have bk9 := fun n => cs_bk_9 (cs_b LA) at_.toNat n
  have ah9 := fun n => cs_ah_9 (cs_b LA) at_.toNat n
  intro n
  induction n with
  | zero =>
    intro k bk ah tp cb sb e k0 eb ea ep p0 p1
    have x1 := bk9 k.toNat
    have x2 := ah9 k.toNat
    refine w_il rfl ?_
    refine w_aln rfl ?_
    refine w_gi ga.g125 rfl (by decide) rfl ((hC.2.2.1 5 (by decide)).trans hK.1) ?_
    refine w_cmge (fun c1 => ?_) (fun c1 => ?_)
    · skip
      refine w_il rfl ?_
      refine w_aln rfl ?_
      refine w_gi ga.g125 rfl (by decide) rfl ((hC.2.2.1 6 (by decide)).trans hK.2.1) ?_
      refine w_iln rfl ?_
      refine w_iln rfl ?_
      refine w_add ⟨by show (-2147483648 : Int) ≤ bk + ah; omega, by show bk + ah < (2147483648 : Int); omega⟩ ?_
      refine w_iln rfl ?_
      refine w_iln rfl ?_
      refine w_min (Nat.le_of_ble_eq_true rfl) ?_
      intro z2 fz2 gz2
      refine w_add ⟨by show (-2147483648 : Int) ≤ (bk + ah) + z2; omega, by show (bk + ah) + z2 < (2147483648 : Int); omega⟩ ?_
      have mb3 := cs_mul_b (u := (H 1)) (z := (bk + ah) + z2) (n := 9) (by omega) (by omega) (by omega) (by omega)
      refine w_mul ⟨by show (-2147483648 : Int) ≤ (H 1) * ((bk + ah) + z2); omega, by show (H 1) * ((bk + ah) + z2) < (2147483648 : Int); omega⟩ ?_
      refine w_add ⟨by show (-2147483648 : Int) ≤ tp + ((H 1) * ((bk + ah) + z2)); omega, by show tp + ((H 1) * ((bk + ah) + z2)) < (2147483648 : Int); omega⟩ ?_
      have ev : tp + ((H 1) * ((bk + ah) + z2)) = cs_LB H (cs_b LA) at_.toNat := by
        have ef : (bk + ah) + z2 = ((cs_far (cs_b LA) at_.toNat (cs_t H) : Nat) : Int) := by
          rw [show cs_t H = k.toNat by omega]
          show _ = ((cs_bk (cs_b LA) at_.toNat k.toNat + cs_ah (cs_b LA) at_.toNat k.toNat + min (cs_bk (cs_b LA) at_.toNat k.toNat) (cs_ah (cs_b LA) at_.toNat k.toNat) : Nat) : Int)
          omega
        rw [ef, ep, show k.toNat = cs_t H by omega]
        rfl
      exact w_iret (fun q => by cases q) (by rw [ev]; exact h)
    · exfalso; omega
  | succ n ih =>
    intro k bk ah tp cb sb e k0 eb ea ep p0 p1
    have x1 := bk9 k.toNat
    have x2 := ah9 k.toNat
    have tb := cs_rt hr (j := (9 * k + 10).toNat) (by omega) (by omega)
    have eb9 : 10 + 9 * k.toNat = (9 * k + 10).toNat := by omega
    have e1 : (k + 1).toNat = k.toNat + 1 := by omega
    refine w_il rfl ?_
    refine w_aln rfl ?_
    refine w_gi ga.g125 rfl (by decide) rfl ((hC.2.2.1 5 (by decide)).trans hK.1) ?_
    refine w_cmge (fun c1 => ?_) (fun c1 => ?_)
    · exfalso; omega
    · skip
      refine w_aln rfl ?_
      refine w_gr ga.g125 rfl (by decide) rfl (hC.r (gb.r125_8)) ?_
      refine w_il rfl ?_
      refine w_iald (v := (LA k.toNat)) ga.g128 rfl (by show (0 : Int) ≤ k; omega) (by show k < ((3 : Nat) : Int); omega) (hC.2.2.2.2.1 _ (by show k.toNat < 3; omega)) ?_
      refine w_ifle (fun c2 => ?_) (fun c2 => ?_)
      · skip
        refine w_ii rfl ⟨by show (-2147483648 : Int) ≤ k + 1; omega, by show k + 1 < (2147483648 : Int); omega⟩ ?_
        show wz _ _ _ _ [some (.inr (.inr (some (w 125)))), some (.inl at_), some (.inl bk), some (.inl ah), some (.inl tp), some (.inl (k + 1))] _ _ _ _ _
        refine w_goto ?_
        have hb : cs_b LA k.toNat = false := decide_eq_false (by omega)
        have f1 : cs_bk (cs_b LA) at_.toNat (k.toNat + 1) = cs_bk (cs_b LA) at_.toNat k.toNat := by
          show (if cs_b LA k.toNat = true then _ else _) = _
          rw [hb]; rfl
        have f2 : cs_ah (cs_b LA) at_.toNat (k.toNat + 1) = cs_ah (cs_b LA) at_.toNat k.toNat := by
          show (if cs_b LA k.toNat = true then _ else _) = _
          rw [hb]; rfl
        have f3 : cs_tp H (cs_b LA) at_.toNat (k.toNat + 1) = cs_tp H (cs_b LA) at_.toNat k.toNat := by
          show cs_tp H (cs_b LA) at_.toNat k.toNat + (if cs_b LA k.toNat = true ∧ k.toNat ≠ at_.toNat then H (10 + 9 * k.toNat) else 0) = _
          rw [if_neg (fun z => by rw [hb] at z; cases z.1), Int.add_zero]
        exact ih (k + 1) _ _ _ _ _ (by omega) (by omega) (by rw [e1, f1]; omega) (by rw [e1, f2]; omega) (by rw [e1, f3]; omega) (by omega) (by omega)
      · skip
        refine w_il rfl ?_
        refine w_iln rfl ?_
        refine w_cmeq (fun c3 => ?_) (fun c3 => ?_)
        · skip
          refine w_ii rfl ⟨by show (-2147483648 : Int) ≤ k + 1; omega, by show k + 1 < (2147483648 : Int); omega⟩ ?_
          show wz _ _ _ _ [some (.inr (.inr (some (w 125)))), some (.inl at_), some (.inl bk), some (.inl ah), some (.inl tp), some (.inl (k + 1))] _ _ _ _ _
          refine w_goto ?_
          have hb : cs_b LA k.toNat = true := decide_eq_true (by omega)
          have f1 : cs_bk (cs_b LA) at_.toNat (k.toNat + 1) = max (cs_bk (cs_b LA) at_.toNat k.toNat) (at_.toNat - k.toNat) := by
            show (if cs_b LA k.toNat = true then _ else _) = _
            rw [hb]; rfl
          have f2 : cs_ah (cs_b LA) at_.toNat (k.toNat + 1) = max (cs_ah (cs_b LA) at_.toNat k.toNat) (k.toNat - at_.toNat) := by
            show (if cs_b LA k.toNat = true then _ else _) = _
            rw [hb]; rfl
          have f3 : cs_tp H (cs_b LA) at_.toNat (k.toNat + 1) = cs_tp H (cs_b LA) at_.toNat k.toNat := by
            show cs_tp H (cs_b LA) at_.toNat k.toNat + (if cs_b LA k.toNat = true ∧ k.toNat ≠ at_.toNat then H (10 + 9 * k.toNat) else 0) = _
            rw [if_neg (fun z => z.2 (by omega)), Int.add_zero]
          exact ih (k + 1) _ _ _ _ _ (by omega) (by omega) (by rw [e1, f1]; omega) (by rw [e1, f2]; omega) (by rw [e1, f3]; omega) (by omega) (by omega)
        · skip
          refine w_il rfl ?_
          refine w_aln rfl ?_
          refine w_gr ga.g125 rfl (by decide) rfl (hC.r (gb.r125_7)) ?_
          refine w_il rfl ?_
          refine w_iald (v := (H (9 * k + 10).toNat)) ga.g127 rfl (by show (0 : Int) ≤ k; omega) (by show k < ((3 : Nat) : Int); omega) ((hC.o ga.n127).trans ((hK.br (by omega)).trans (congrArg H (by omega)))) ?_
          refine w_add ⟨by show (-2147483648 : Int) ≤ tp + (H (9 * k + 10).toNat); omega, by show tp + (H (9 * k + 10).toNat) < (2147483648 : Int); omega⟩ ?_
          refine w_is ?_
          show wz _ _ _ _ [some (.inr (.inr (some (w 125)))), some (.inl at_), some (.inl bk), some (.inl ah), some (.inl (tp + (H (9 * k + 10).toNat))), some (.inl k)] _ _ _ _ _
          refine w_iln rfl ?_
          refine w_iln rfl ?_
          refine w_il rfl ?_
          refine w_sub ⟨by show (-2147483648 : Int) ≤ at_ - k; omega, by show at_ - k < (2147483648 : Int); omega⟩ ?_
          refine w_max (Nat.le_of_ble_eq_true rfl) ?_
          intro z4 fz4 gz4
          refine w_isn ?_
          show wz _ _ _ _ [some (.inr (.inr (some (w 125)))), some (.inl at_), some (.inl z4), some (.inl ah), some (.inl (tp + (H (9 * k + 10).toNat))), some (.inl k)] _ _ _ _ _
          refine w_iln rfl ?_
          refine w_il rfl ?_
          refine w_iln rfl ?_
          refine w_sub ⟨by show (-2147483648 : Int) ≤ k - at_; omega, by show k - at_ < (2147483648 : Int); omega⟩ ?_
          refine w_max (Nat.le_of_ble_eq_true rfl) ?_
          intro z5 fz5 gz5
          refine w_isn ?_
          show wz _ _ _ _ [some (.inr (.inr (some (w 125)))), some (.inl at_), some (.inl z4), some (.inl z5), some (.inl (tp + (H (9 * k + 10).toNat))), some (.inl k)] _ _ _ _ _
          refine w_ii rfl ⟨by show (-2147483648 : Int) ≤ k + 1; omega, by show k + 1 < (2147483648 : Int); omega⟩ ?_
          show wz _ _ _ _ [some (.inr (.inr (some (w 125)))), some (.inl at_), some (.inl z4), some (.inl z5), some (.inl (tp + (H (9 * k + 10).toNat))), some (.inl (k + 1))] _ _ _ _ _
          refine w_goto ?_
          have hb : cs_b LA k.toNat = true := decide_eq_true (by omega)
          have f1 : cs_bk (cs_b LA) at_.toNat (k.toNat + 1) = max (cs_bk (cs_b LA) at_.toNat k.toNat) (at_.toNat - k.toNat) := by
            show (if cs_b LA k.toNat = true then _ else _) = _
            rw [hb]; rfl
          have f2 : cs_ah (cs_b LA) at_.toNat (k.toNat + 1) = max (cs_ah (cs_b LA) at_.toNat k.toNat) (k.toNat - at_.toNat) := by
            show (if cs_b LA k.toNat = true then _ else _) = _
            rw [hb]; rfl
          have f3 : cs_tp H (cs_b LA) at_.toNat (k.toNat + 1) = cs_tp H (cs_b LA) at_.toNat k.toNat + H (9 * k + 10).toNat := by
            show cs_tp H (cs_b LA) at_.toNat k.toNat + (if cs_b LA k.toNat = true ∧ k.toNat ≠ at_.toNat then H (10 + 9 * k.toNat) else 0) = _
            rw [if_pos ⟨hb, by omega⟩, eb9]
          exact ih (k + 1) _ _ _ _ _ (by omega) (by omega) (by rw [e1, f1]; omega) (by rw [e1, f2]; omega) (by rw [e1, f3]; omega) (by omega) (by omega)
theorem r_X0_leastToCome {G : mj_G} {M0 : mj_M} {w : Nat → Nat} {H : Nat → Int} {Q : mj_P} {d : Nat} (ga : cp_GA G w) (gb : cp_BA M0 w) (hK : cc_K H M0 w) (hr : rv_r4 H 0) (t1 : 1 ≤ H 0) (t3 : H 0 ≤ 3) {M : mj_M} {LA PA BE : Nat → Int} {bp : Int} (hC : cc_C w M0 LA PA BE bp M) {at_ : Int} (a0 : 0 ≤ at_) (a3 : at_ ≤ H 0) (h : Q (some (.inl (cs_LB H (cs_b LA) at_.toNat))) G M) : mj_R mj_tab (d + 1) 7 [.inr (.inr (some (w 125))), .inl at_] G M Q := by
  have et := cs_te hr
  refine ⟨Nat.le_of_ble_eq_true rfl, ?_⟩
  show wz d mt_X0_leastToCome.2.2.2.2.1 Q mt_X0_leastToCome.2.2.2.2.1 [some (.inr (.inr (some (w 125)))), some (.inl at_), none, none, none, none] [] G M _ _
  refine w_ic ?_
  refine w_isn ?_
  refine w_ic ?_
  refine w_isn ?_
  refine w_ic ?_
  refine w_is ?_
  refine w_ic ?_
  refine w_is ?_
  exact r_lc ga gb hK hr t1 t3 hC a0 a3 h (cs_t H) 0 0 0 0 _ _ (by omega) (by decide) rfl rfl rfl (by decide) (by decide)
