/-! ===== the law's symbolic run over a script of n ints, its call from lo to hi ===== -/
def sx_F8 (n lo hi : Nat) : sx_Y := [(.negSucc 2147483647, .ofNat 2147483647), (.negSucc 2147483647, .ofNat 2147483647), (.negSucc 2147483647, .ofNat 2147483647), (.negSucc 2147483647, .ofNat 2147483647), (.negSucc 2147483647, .ofNat 2147483647), (.negSucc 2147483647, .ofNat 2147483647), (.ofNat n, .ofNat n), (.ofNat lo, .ofNat hi)]
def sx_h0 : sx_H := (1, .leaf (sx_nc 901000 0))
noncomputable def sx_go (n lo hi : Nat) : Bool := sx_ex 30000 900 40 mj_law (some (.inr (.inr (some 0))) :: List.replicate 6 none) [] 400 20000 [] sx_h0 (sx_F8 n lo hi)
set_option maxRecDepth 100000 in
theorem sx_go0 : sx_go 0 0 63 = true := by decide +kernel
set_option maxRecDepth 100000 in
theorem sx_go1 : sx_go 1 0 63 = true := by decide +kernel
set_option maxRecDepth 100000 in
theorem sx_go2 : sx_go 2 0 63 = true := by decide +kernel
set_option maxRecDepth 100000 in
theorem sx_go3 : sx_go 3 0 63 = true := by decide +kernel
set_option maxRecDepth 100000 in
theorem sx_go4 : sx_go 4 0 63 = true := by decide +kernel
set_option maxRecDepth 100000 in
theorem sx_go5 : sx_go 5 0 63 = true := by decide +kernel
set_option maxRecDepth 100000 in
theorem sx_go6a : sx_go 6 0 1 = true := by decide +kernel
set_option maxRecDepth 100000 in
theorem sx_go6b : sx_go 6 2 2 = true := by decide +kernel
set_option maxRecDepth 100000 in
theorem sx_go6c : sx_go 6 3 38 = true := by decide +kernel
set_option maxRecDepth 100000 in
theorem sx_go6d : sx_go 6 39 39 = true := by decide +kernel
set_option maxRecDepth 100000 in
theorem sx_go6e : sx_go 6 40 63 = true := by decide +kernel
