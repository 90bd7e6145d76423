/-! ===== the law's own list is checked, fifty rows at a time ===== -/
def law_c (k : Nat) : Bool := mj_ca mj_tab RL (some .boolean) 7 false cL_law mj_law (50 * k) ((mj_law.drop (50 * k)).take 50)
set_option maxRecDepth 100000 in
theorem law_c0 : law_c 0 = true := by decide +kernel
set_option maxRecDepth 100000 in
theorem law_c1 : law_c 1 = true := by decide +kernel
set_option maxRecDepth 100000 in
theorem law_c2 : law_c 2 = true := by decide +kernel
set_option maxRecDepth 100000 in
theorem law_c3 : law_c 3 = true := by decide +kernel
set_option maxRecDepth 100000 in
theorem law_c4 : law_c 4 = true := by decide +kernel
set_option maxRecDepth 100000 in
theorem law_c5 : law_c 5 = true := by decide +kernel
set_option maxRecDepth 100000 in
theorem law_c6 : law_c 6 = true := by decide +kernel
set_option maxRecDepth 100000 in
theorem law_c7 : law_c 7 = true := by decide +kernel
set_option maxRecDepth 100000 in
theorem law_c8 : law_c 8 = true := by decide +kernel
set_option maxRecDepth 100000 in
theorem law_c9 : law_c 9 = true := by decide +kernel
set_option maxRecDepth 100000 in
theorem law_c10 : law_c 10 = true := by decide +kernel
set_option maxRecDepth 100000 in
theorem law_c11 : law_c 11 = true := by decide +kernel
set_option maxRecDepth 100000 in
theorem law_c12 : law_c 12 = true := by decide +kernel
set_option maxRecDepth 100000 in
theorem law_c13 : law_c 13 = true := by decide +kernel
set_option maxRecDepth 100000 in
theorem law_c14 : law_c 14 = true := by decide +kernel
set_option maxRecDepth 100000 in
theorem law_c15 : law_c 15 = true := by decide +kernel
set_option maxRecDepth 100000 in
theorem law_len : mj_law.length = 764 := by decide +kernel
theorem law_ck {i : Nat} {x : mj_E} (h : mj_law[i]? = some x) : mj_cb mj_tab RL (some .boolean) 7 false cL_law mj_law i x = true := by
  have hi : i < 764 := by rw [← law_len]; exact (List.getElem?_eq_some_iff.mp h).1
  have hc : law_c (i / 50) = true := by
    have hk : i / 50 < 16 := by omega
    generalize i / 50 = k at hk ⊢
    match k, hk with
    | 0, _ => exact law_c0
    | 1, _ => exact law_c1
    | 2, _ => exact law_c2
    | 3, _ => exact law_c3
    | 4, _ => exact law_c4
    | 5, _ => exact law_c5
    | 6, _ => exact law_c6
    | 7, _ => exact law_c7
    | 8, _ => exact law_c8
    | 9, _ => exact law_c9
    | 10, _ => exact law_c10
    | 11, _ => exact law_c11
    | 12, _ => exact law_c12
    | 13, _ => exact law_c13
    | 14, _ => exact law_c14
    | 15, _ => exact law_c15
    | n + 16, hk => omega
  have hx : ((mj_law.drop (50 * (i / 50))).take 50)[i % 50]? = some x := by
    rw [List.getElem?_take_of_lt (Nat.mod_lt _ (by decide)), List.getElem?_drop, Nat.div_add_mod]
    exact h
  have := mj_ca_at _ _ _ _ hc hx
  rw [Nat.div_add_mod] at this
  exact this
set_option maxRecDepth 100000 in
theorem law_p0 : mj_pc mj_law 0 = 0 := by decide +kernel
def law_tk (x : mj_E) : Bool := match x.1 with
  | .invokestatic k => !x.2.2.1.isEmpty || Nat.beq k 38
  | _ => true
set_option maxRecDepth 100000 in
theorem law_td : mj_law.all law_tk = true := by decide +kernel
set_option maxRecDepth 100000 in
theorem law_p13 : mj_pc mj_law 13 = 23 := by decide +kernel
