/-! ===== the makers' run in the kernel ===== -/
def sz_w0 (k : Nat) : sx_c := sx_nc (900050 + 1000 * k) 0
noncomputable def sz_t0 : Lean.RArray sx_c := Nat.rec (motive := fun _ => Lean.RArray sx_c) (sx_s 12 (.leaf (sx_nc 901000 0)) 25 (900105, 24, .leaf (.inl (.ofNat 0)), .leaf 0, Nat.rec (motive := fun _ => Lean.RArray (Option Nat)) (.leaf none) (fun k t => sx_s 12 t k (some (Nat.succ k))) 24)) (fun k t => sx_s 12 t (Nat.succ k) (sz_w0 k)) 24
noncomputable def sz_h0 : sx_H := (26, sz_t0)
set_option maxRecDepth 100000 in
theorem sz_go : sz_ex 2374 901 40 mj_law (some (.inr (.inr (some 0))) :: List.replicate 6 none) [] 3000 60000 [] sz_h0 [] = true := by decide +kernel
