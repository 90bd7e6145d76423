/-! ===== the law's own list is checked, fifty rows at a time ===== -/
set_option maxRecDepth 100000 in
theorem law_fa : fd_fa mj_tab RL (some .boolean) 7 false cL_law mj_law mj_law 0 cL_law.data.toList = true := by decide +kernel
set_option maxRecDepth 100000 in
theorem law_len : mj_law.length = 781 := by decide +kernel
theorem law_ck {i : Nat} {x : mj_E} (h : mj_law[i]? = some x) : mj_cb mj_tab RL (some .boolean) 7 false cL_law mj_law i x = true := by
  have := mj_ca_at _ 0 i x (fd_fa_0 law_fa) h
  rw [Nat.zero_add] at this
  exact this
set_option maxRecDepth 100000 in
theorem law_p0 : mj_pc mj_law 0 = 0 := by decide +kernel
def law_tk (x : mj_E) : Bool := match x.1 with
  | .invokestatic k => !x.2.2.1.isEmpty || Nat.beq k 38
  | _ => true
set_option maxRecDepth 100000 in
theorem law_td : mj_law.all law_tk = true := by decide +kernel
set_option maxRecDepth 100000 in
theorem law_p13 : mj_pc mj_law 13 = 23 := by decide +kernel
