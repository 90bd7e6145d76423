/-! ===== an abstract run of the small machine, by a program: ints by signs with bounds, cells by what is remembered of them ===== -/
abbrev ab_I : Type := Int ⊕ (Nat × Nat × Int)
abbrev ab_V : Type := ab_I ⊕ (Unit ⊕ Nat)
abbrev ab_L : Type := List (Option ab_V)
abbrev ab_S : Type := Int × Int × List (Nat × Int)
abbrev ab_Y : Type := List ab_S
abbrev ab_R : Type := List (Nat × Nat)
abbrev ab_m : Type := List (Nat × ab_I × ab_V)
abbrev ab_E : Type := List (ab_I × Int × ab_I)
/-- method, depth, place, rest, locals, stack -/
abbrev ab_F : Type := Nat × Nat × Nat × List mj_E × ab_L × List ab_V
abbrev ab_K : Type := Nat → Nat → Nat → List mj_E → ab_L → List ab_V → List ab_F → ab_Y → ab_R → ab_m → ab_E → Bool
/-- a number told: known; a rigid sign and more; bounds, and a rigid sign that it isn't below -/
abbrev ab_X : Type := Int ⊕ ((Nat × Int) ⊕ (Int × Int × Option (Nat × Int)))
/-- what comes back: nothing; a number, a long, a reference; and what cells hold then -/
abbrev ab_po : Type := Option (ab_X ⊕ (Unit ⊕ (Nat × Nat))) × List (Nat × Nat × ab_X)
/-- a pattern: signs, references, what cells hold, values -/
abbrev ab_pt : Type := ab_Y × ab_R × List (Nat × Nat × ab_V) × ab_L
/-- a cut: its place, its pattern, its measure -/
abbrev ab_cu : Type := Nat × ab_pt × List (ab_I × Nat)
/-- a contract: method, height, entry, what may be written, what comes back, cuts, splits -/
abbrev ab_co : Type := Nat × Nat × ab_pt × List (Nat × Nat × Nat) × List ab_po × List ab_cu × List (Nat × Nat)
def ab_y (c : ab_co) : Nat := c.1
def ab_h (c : ab_co) : Nat := c.2.1
def ab_p (c : ab_co) : ab_pt := c.2.2.1
def ab_w (c : ab_co) : List (Nat × Nat × Nat) := c.2.2.2.1
def ab_o (c : ab_co) : List ab_po := c.2.2.2.2.1
def ab_c (c : ab_co) : List ab_cu := c.2.2.2.2.2.1
def ab_sl (c : ab_co) : List (Nat × Nat) := c.2.2.2.2.2.2
def ab_full (y : Nat) : List mj_E := (mj_tab y).2.2.2.2.1
/-! numbers -/
def ab_ny : ab_Y → Nat → Option ab_S
  | [], _ => none
  | x :: _, 0 => some x
  | _ :: t, n + 1 => ab_ny t n
def ab_nR : ab_R → Nat → Option (Nat × Nat)
  | [], _ => none
  | x :: _, 0 => some x
  | _ :: t, n + 1 => ab_nR t n
def ab_lo : Int := .negSucc 2147483647
def ab_hi : Int := .ofNat 2147483647
def ab_mn (x y : Int) : Int := cond (sx_le x y) x y
def ab_mx (x y : Int) : Int := cond (sx_le x y) y x
def ab_iv (Y : ab_Y) (x : ab_I) (k : Int → Int → Bool) : Bool := match x with
  | .inl z => k z z
  | .inr (i, a, b) => match ab_ny Y i with
    | some q => sx_fi (Int.ofNat a * q.1 + b) fun l => sx_fi (Int.ofNat a * q.2.1 + b) fun h => k l h
    | none => false
def ab_nr (Y : ab_Y) (x : ab_I) : ab_I := match x with
  | .inl z => .inl z
  | .inr (i, a, b) => match ab_ny Y i with
    | some q => cond (sx_eq q.1 q.2.1) (.inl (Int.ofNat a * q.1 + b)) (.inr (i, a, b))
    | none => .inr (i, a, b)
def ab_ie (x y : ab_I) : Bool := match x, y with
  | .inl a, .inl b => sx_eq a b
  | .inr (i, a, b), .inr (j, c, d) => Nat.beq i j && (Nat.beq a c && sx_eq b d)
  | _, _ => false
/-- the same number -/
def ab_sm (Y : ab_Y) (x y : ab_I) : Bool := ab_ie (ab_nr Y x) (ab_nr Y y)
def ab_mo (a : Option Int) (b : Int) : Option Int := match a with
  | none => some b
  | some x => some (ab_mx x b)
/-- sign i is at least sign j and this -/
def ab_lb (Y : ab_Y) : Nat → Nat → Nat → Option Int
  | 0, _, _ => none
  | n + 1, i, j => cond (Nat.beq i j) (some (.ofNat 0)) (match ab_ny Y i with
    | none => none
    | some q => q.2.2.foldl (fun acc r => match ab_lb Y n r.1 j with
      | none => acc
      | some z => ab_mo acc (z + r.2)) none)
/-- x is at least y and this -/
def ab_df (Y : ab_Y) (x y : ab_I) : Option Int := match x, y with
  | .inl a, .inl b => some (a - b)
  | .inl a, .inr (j, c, d) => match ab_ny Y j with
    | none => none
    | some q => some (a - (Int.ofNat c * q.2.1 + d))
  | .inr (i, a, b), .inl d => match ab_ny Y i with
    | none => none
    | some q => some (Int.ofNat a * q.1 + b - d)
  | .inr (i, a, b), .inr (j, c, d) => cond (Nat.beq i j && Nat.beq a c) (some (b - d)) (match ab_ny Y i with
    | none => none
    | some p => match ab_ny Y j with
      | none => none
      | some q => match (cond (Nat.beq a 1 && Nat.beq c 1) (ab_lb Y 12 i j) none) with
        | none => some (Int.ofNat a * p.1 + b - (Int.ofNat c * q.2.1 + d))
        | some z => some (ab_mx (z + b - d) (Int.ofNat a * p.1 + b - (Int.ofNat c * q.2.1 + d))))
def ab_ge (Y : ab_Y) (x y : ab_I) (d : Int) : Bool := match ab_df Y x y with
  | none => false
  | some z => sx_le d z
/-- an upper bound out of what isn't below -/
def ab_hb (Y : ab_Y) (j : Nat) : ab_Y → Int → Int
  | [], acc => acc
  | q :: t, acc => ab_hb Y j t (q.2.2.foldl (fun acc r => cond (Nat.beq r.1 j) (ab_mn acc (q.2.1 - r.2)) acc) acc)
/-- at most hi -/
def ab_le (Y : ab_Y) (x : ab_I) (hi : Int) : Bool := match x with
  | .inl z => sx_le z hi
  | .inr (i, a, b) => match ab_ny Y i with
    | none => false
    | some q => sx_le (Int.ofNat a * q.2.1 + b) hi || (Nat.beq a 1 && sx_le (ab_hb Y i Y q.2.1 + b) hi)
/-! new signs -/
def ab_fr (Y : ab_Y) (lo hi : Int) (rel : List (Nat × Int)) (k : ab_I → ab_Y → Bool) : Bool := sx_fi lo fun lo => sx_fi hi fun hi => cond (sx_eq lo hi) (k (.inl lo) Y) (k (.inr (Y.length, 1, .ofNat 0)) (Y ++ [(lo, hi, rel)]))
def ab_ff (Y : ab_Y) (k : ab_I → ab_Y → Bool) : Bool := ab_fr Y ab_lo ab_hi [] k
def ab_c1 (i a : Nat) (b : Int) (k : ab_I → Bool) : Bool := sx_fi b fun b => sx_fn a fun a => k (.inr (i, a, b))
def ab_rel1 (x : ab_I) (d : Int) : List (Nat × Int) := match x with
  | .inr (i, 1, b) => [(i, b + d)]
  | _ => []
def ab_add (Y : ab_Y) (x y : ab_I) (k : ab_I → ab_Y → Bool) : Bool := ab_iv Y x fun a b => ab_iv Y y fun c d => cond (sx_in (a + c) (b + d)) (match x, y with
  | .inl p, .inl q => sx_fi (p + q) fun z => k (.inl z) Y
  | .inl p, .inr (i, f, q) => ab_c1 i f (p + q) fun v => k v Y
  | .inr (i, f, p), .inl q => ab_c1 i f (p + q) fun v => k v Y
  | .inr (i, f, p), .inr (j, g, q) => cond (Nat.beq i j) (ab_c1 i (f + g) (p + q) fun v => k v Y) (ab_fr Y (a + c) (b + d) (cond (Nat.beq f 1) (ab_rel1 (.inr (i, f, p)) c) (ab_rel1 (.inr (j, g, q)) a)) k)) (ab_ff Y k)
def ab_sub (Y : ab_Y) (x y : ab_I) (k : ab_I → ab_Y → Bool) : Bool := ab_iv Y x fun a b => ab_iv Y y fun c d => cond (sx_in (a - d) (b - c)) (match x, y with
  | .inl p, .inl q => sx_fi (p - q) fun z => k (.inl z) Y
  | .inr (i, f, p), .inl q => ab_c1 i f (p - q) fun v => k v Y
  | .inr (i, f, p), .inr (j, g, q) => cond (Nat.beq i j && Nat.ble g f) (cond (Nat.beq f g) (sx_fi (p - q) fun z => k (.inl z) Y) (ab_c1 i (f - g) (p - q) fun v => k v Y)) (ab_fr Y (a - d) (b - c) (ab_rel1 (.inr (i, f, p)) (-d)) k)
  | .inl _, .inr _ => ab_fr Y (a - d) (b - c) [] k) (ab_ff Y k)
def ab_mul (Y : ab_Y) (x y : ab_I) (k : ab_I → ab_Y → Bool) : Bool := ab_iv Y x fun a b => ab_iv Y y fun c d => sx_fi (ab_mn (ab_mn (a * c) (a * d)) (ab_mn (b * c) (b * d))) fun lo => sx_fi (ab_mx (ab_mx (a * c) (a * d)) (ab_mx (b * c) (b * d))) fun hi => cond (sx_in lo hi) (match x, y with
  | .inl p, .inl q => sx_fi (p * q) fun z => k (.inl z) Y
  | .inl (.ofNat p), .inr (i, f, q) => cond (Nat.ble 1 p) (ab_c1 i (f * p) (Int.ofNat p * q) fun v => k v Y) (ab_fr Y lo hi [] k)
  | .inr (i, f, p), .inl (.ofNat q) => cond (Nat.ble 1 q) (ab_c1 i (f * q) (Int.ofNat q * p) fun v => k v Y) (ab_fr Y lo hi [] k)
  | _, _ => ab_fr Y lo hi [] k) (ab_ff Y k)
/-! comparisons -/
def ab_may (c : ClassFile.Cond) (Y : ab_Y) (x y : ab_I) : Bool := match c with
  | .eq => !(ab_ge Y x y (.ofNat 1) || ab_ge Y y x (.ofNat 1))
  | .ne => !(ab_sm Y x y)
  | .lt => !(ab_ge Y x y (.ofNat 0))
  | .ge => !(ab_ge Y y x (.ofNat 1))
  | .gt => !(ab_ge Y y x (.ofNat 0))
  | .le => !(ab_ge Y x y (.ofNat 1))
/-- the bounds of a sign (with more: b) that is held against something from c to d -/
def ab_rfn (cd : ClassFile.Cond) (lo hi b c d : Int) (k : Int → Int → Bool) : Bool := match cd with
  | .eq => sx_fi (ab_mx lo (c - b)) fun l => sx_fi (ab_mn hi (d - b)) fun h => k l h
  | .ne => cond (sx_eq c d) (sx_fi (cond (sx_eq lo (c - b)) (lo + 1) lo) fun l => sx_fi (cond (sx_eq hi (c - b)) (hi - 1) hi) fun h => k l h) (k lo hi)
  | .lt => sx_fi (ab_mn hi (d - 1 - b)) fun h => k lo h
  | .le => sx_fi (ab_mn hi (d - b)) fun h => k lo h
  | .gt => sx_fi (ab_mx lo (c + 1 - b)) fun l => k l hi
  | .ge => sx_fi (ab_mx lo (c - b)) fun l => k l hi
def ab_rf1 (cd : ClassFile.Cond) (Y : ab_Y) (x : ab_I) (c d : Int) (k : ab_Y → Bool) : Bool := match x with
  | .inl _ => k Y
  | .inr (i, a, b) => cond (Nat.beq a 1) (match ab_ny Y i with
    | none => k Y
    | some q => ab_rfn cd q.1 q.2.1 b c d fun l h => cond (sx_le l h) (k (Y.set i (l, h, q.2.2))) true) (k Y)
/-- sign j is at least sign i and d -/
def ab_sr (Y : ab_Y) (i j : Nat) (d : Int) (k : ab_Y → Bool) : Bool := cond (Nat.beq i j) (k Y) (match ab_lb Y 12 j i with
  | some z => cond (sx_le d z) (k Y) (ab_sr2 Y i j d k)
  | none => ab_sr2 Y i j d k)
where ab_sr2 (Y : ab_Y) (i j : Nat) (d : Int) (k : ab_Y → Bool) : Bool := match ab_ny Y j with
  | none => k Y
  | some q => sx_fi d fun d => k (Y.set j (q.1, q.2.1, (i, d) :: q.2.2.filter (fun r => !Nat.beq r.1 i)))
def ab_st2 (cd : ClassFile.Cond) (Y : ab_Y) (x y : ab_I) (k : ab_Y → Bool) : Bool := match x, y with
  | .inr (i, 1, b), .inr (j, 1, d) => match cd with
    | .lt => ab_sr Y i j (b - d + 1) k
    | .le => ab_sr Y i j (b - d) k
    | .gt => ab_sr Y j i (d - b + 1) k
    | .ge => ab_sr Y j i (d - b) k
    | _ => k Y
  | _, _ => k Y
def ab_br1 (cd : ClassFile.Cond) (Y : ab_Y) (x y : ab_I) (a b c d : Int) (k : ab_Y → Bool) : Bool := cond (ab_may cd Y x y) (ab_rf1 cd Y x c d fun Y => ab_rf1 (sx_swp cd) Y y a b fun Y => ab_st2 cd Y x y k) true
def ab_br (cd : ClassFile.Cond) (Y : ab_Y) (x y : ab_I) (k k' : ab_Y → Bool) : Bool := ab_iv Y x fun a b => ab_iv Y y fun c d => ab_br1 cd Y x y a b c d k && ab_br1 (sx_neg cd) Y x y a b c d k'
/-- each value that it may be, n from lo on -/
def ab_all (n : Nat) (lo : Int) (k : Int → Bool) : Bool := match n with
  | 0 => true
  | n + 1 => sx_fi lo k && ab_all n (lo + 1) k
def ab_spl (Y : ab_Y) (x : ab_I) (k : Int → ab_Y → Bool) : Bool := match x with
  | .inl z => k z Y
  | .inr (i, a, b) => match ab_ny Y i with
    | none => false
    | some q => cond (sx_le (q.2.1 - q.1) (.ofNat 60)) (ab_all (q.2.1 + 1 - q.1).toNat q.1 fun z => sx_fi (Int.ofNat a * z + b) fun v => k v (Y.set i (z, z, q.2.2))) false
