/-! ===== a small machine over a flat memory: values, memory, heap typing, what a method's code needs ===== -/
abbrev mj_V : Type := Int ⊕ (Int64 ⊕ Option Nat)
abbrev mj_M : Type := (Nat → Nat → Int) × (Nat → Nat → Int64) × (Nat → Nat → Option Nat)
abbrev mj_G : Type := Nat → Nat × Nat
/-- an instruction, its pc, what its pool entry or its target is, a number -/
abbrev mj_E : Type := Instr × Nat × List Nat × Int
abbrev mj_P : Type := Option mj_V → mj_G → mj_M → Prop
abbrev mj_C : Type := Nat → List mj_V → mj_G → mj_M → mj_P → Prop
abbrev mj_L : Type := List (Option mj_V)
def mj_in (z : Int) : Prop := -2147483648 ≤ z ∧ z < 2147483648
def mj_val : mj_V → Value
  | .inl z => .int (Int32.ofInt z)
  | .inr (.inl w) => .long w
  | .inr (.inr r) => va_rf r
def mj_ok : mj_V → Prop
  | .inl z => mj_in z
  | .inr _ => True
/-- what a slot of a sort holds: 0 an int, 1 a long, else a reference -/
def mj_sv (so : Nat) (M : mj_M) (a k : Nat) : Value := match so with
  | 0 => .int (Int32.ofInt (M.1 a k))
  | 1 => .long (M.2.1 a k)
  | _ => va_rf (M.2.2 a k)
def mj_fs (ty : FieldType) : Nat := match ty with
  | .long => 1
  | .object _ => 2
  | .array _ => 2
  | _ => 0
def mj_ty (ci k : Nat) : FieldType := match ci with
  | 0 => tyX0 k
  | 1 => tyX1 k
  | 2 => tyX2 k
  | 3 => tyX3 k
  | 4 => tyX4 k
  | 5 => tyX5 k
  | 6 => tyX6 k
  | 7 => tyX7 k
  | 8 => tyX8 k
  | 9 => tyX10 k
  | 10 => tyX11 k
  | _ => tyX12 k
def mj_so (ci k : Nat) : Nat := mj_fs (mj_ty ci k)
/-- the array types -/
def mj_at (j : Nat) : FieldType := match j with
  | 0 => .int
  | 1 => .byte
  | 2 => .boolean
  | 3 => .long
  | 4 => .array .int
  | 5 => .object "RentRiver$Word"
  | _ => .object "RentRiver$State"
def mj_as (j : Nat) : Nat := mj_fs (mj_at j)
def mj_p0 (M : mj_M) (a k : Nat) (z : Int) : mj_M := (fun x j => if x = a ∧ j = k then z else M.1 x j, M.2.1, M.2.2)
def mj_p1 (M : mj_M) (a k : Nat) (z : Int64) : mj_M := (M.1, fun x j => if x = a ∧ j = k then z else M.2.1 x j, M.2.2)
def mj_p2 (M : mj_M) (a k : Nat) (z : Option Nat) : mj_M := (M.1, M.2.1, fun x j => if x = a ∧ j = k then z else M.2.2 x j)
/-- a new cell at a -/
def mj_g (G : mj_G) (a t n : Nat) : mj_G := fun x => if x = a then (t, n) else G x
def mj_z (M : mj_M) (a : Nat) : mj_M := (fun x j => if x = a then 0 else M.1 x j, fun x j => if x = a then 0 else M.2.1 x j, fun x j => if x = a then none else M.2.2 x j)
/-- n rows behind a -/
def mj_gg (G : mj_G) (a t n t2 k : Nat) : mj_G := fun x => if x = a then (t, n) else if a < x ∧ x ≤ a + n then (t2, k) else G x
def mj_zz (M : mj_M) (a n : Nat) : mj_M := (fun x j => if a ≤ x ∧ x ≤ a + n then 0 else M.1 x j, fun x j => if a ≤ x ∧ x ≤ a + n then 0 else M.2.1 x j, fun x j => if x = a then (if j < n then some (a + 1 + j) else none) else if a ≤ x ∧ x ≤ a + n then none else M.2.2 x j)
def mj_nt : mj_L → Nat → Option mj_V
  | [], _ => none
  | x :: _, 0 => x
  | _ :: t, n + 1 => mj_nt t n
/-- a long that begins one place ahead is spoilt -/
def mj_kl (L : mj_L) (i : Nat) : mj_L := match i with
  | 0 => L
  | j + 1 => match mj_nt L j with
    | some (.inr (.inl _)) => L.set j none
    | _ => L
def mj_s1 (L : mj_L) (i : Nat) (v : mj_V) : mj_L := (mj_kl L i).set i (some v)
def mj_s2 (L : mj_L) (i : Nat) (v : mj_V) : mj_L := ((mj_kl L i).set i (some v)).set (i + 1) none
def mj_cat : List mj_V → Nat
  | [] => 0
  | .inr (.inl _) :: t => 2 + mj_cat t
  | _ :: t => 1 + mj_cat t
def mj_hd (l : List Nat) : Nat := match l with
  | [] => 0
  | x :: _ => x
def mj_h1 (l : List Nat) : Nat := match l with
  | _ :: x :: _ => x
  | _ => 0
def mj_h2 (l : List Nat) : Nat := match l with
  | _ :: _ :: x :: _ => x
  | _ => 0
def mj_h3 (l : List Nat) : Nat := match l with
  | _ :: _ :: _ :: x :: _ => x
  | _ => 0
def mj_h4 (l : List Nat) : Nat := match l with
  | _ :: _ :: _ :: _ :: x :: _ => x
  | _ => 0
-- the rows of the machine, each with what goes on behind it
def mj_ldi (L : mj_L) (i : Nat) (k : mj_V → Prop) : Prop := match mj_nt L i with
  | some (.inl z) => k (.inl z)
  | _ => False
def mj_ldl (L : mj_L) (i : Nat) (k : mj_V → Prop) : Prop := match mj_nt L i with
  | some (.inr (.inl z)) => k (.inr (.inl z))
  | _ => False
def mj_lda (L : mj_L) (i : Nat) (k : mj_V → Prop) : Prop := match mj_nt L i with
  | some (.inr (.inr z)) => k (.inr (.inr z))
  | _ => False
def mj_i1 (st : List mj_V) (k : Int → List mj_V → Prop) : Prop := match st with
  | .inl x :: t => k x t
  | _ => False
def mj_l1 (st : List mj_V) (k : Int64 → List mj_V → Prop) : Prop := match st with
  | .inr (.inl x) :: t => k x t
  | _ => False
def mj_r1 (st : List mj_V) (k : Option Nat → List mj_V → Prop) : Prop := match st with
  | .inr (.inr x) :: t => k x t
  | _ => False
def mj_a1 (st : List mj_V) (k : Nat → List mj_V → Prop) : Prop := match st with
  | .inr (.inr (some x)) :: t => k x t
  | _ => False
/-- a value of category one on top -/
def mj_c1 (st : List mj_V) (k : mj_V → List mj_V → Prop) : Prop := match st with
  | .inl x :: t => k (.inl x) t
  | .inr (.inr x) :: t => k (.inr (.inr x)) t
  | _ => False
def mj_bin (f : Int → Int → Int) (st : List mj_V) (g : Int32 → Int32 → Int32) (k : List mj_V → Prop) : Prop := mj_i1 st fun y st => mj_i1 st fun x st => (mj_in (f x y) ∧ k (.inl (f x y) :: st)) ∨ ∀ z, mj_in z → z = (g (Int32.ofInt x) (Int32.ofInt y)).toInt → k (.inl z :: st)
def mj_op (st : List mj_V) (g : Int32 → Int32 → Int32) (k : List mj_V → Prop) : Prop := mj_i1 st fun y st => mj_i1 st fun x st => ∀ z, mj_in z → z = (g (Int32.ofInt x) (Int32.ofInt y)).toInt → k (.inl z :: st)
def mj_un (st : List mj_V) (g : Int32 → Int32) (k : List mj_V → Prop) : Prop := mj_i1 st fun x st => ∀ z, mj_in z → z = (g (Int32.ofInt x)).toInt → k (.inl z :: st)
def mj_cc (c : ClassFile.Cond) (x y : Int) : Prop := match c with
  | .eq => x = y
  | .ne => x ≠ y
  | .lt => x < y
  | .ge => y ≤ x
  | .gt => y < x
  | .le => x ≤ y
def mj_br (c : Prop) (a b : Prop) : Prop := (c → a) ∧ (¬ c → b)
def mj_rf (r : Option Nat) (k : mj_V → Prop) : Prop := (∀ b, r = some b → k (.inr (.inr (some b)))) ∧ (r = none → k (.inr (.inr none)))
def mj_is (G : mj_G) (a s : Nat) (k : Nat → Nat → Prop) : Prop := ∃ t n, G a = (t, n) ∧ t % 1000 = s ∧ k t n
/-- a cell that may be written -/
def mj_iw (G : mj_G) (a s : Nat) (k : Nat → Nat → Prop) : Prop := ∃ t n, G a = (t, n) ∧ t % 1000 = s ∧ t < 900000 ∧ k t n
def mj_get (ci fk : Nat) (st : List mj_V) (G : mj_G) (M : mj_M) (k : List mj_V → Prop) : Prop := mj_a1 st fun a st => mj_is G a (ci + 1) fun _ _ => match mj_so ci fk with
  | 0 => k (.inl (M.1 a fk) :: st)
  | 1 => k (.inr (.inl (M.2.1 a fk)) :: st)
  | _ => mj_rf (M.2.2 a fk) fun v => k (v :: st)
def mj_put (ci fk : Nat) (st : List mj_V) (G : mj_G) (M : mj_M) (k : List mj_V → mj_M → Prop) : Prop := match mj_so ci fk with
  | 0 => mj_i1 st fun z st => mj_a1 st fun a st => mj_iw G a (ci + 1) fun _ _ => (mj_ty ci fk = .boolean → z = 0 ∨ z = 1) ∧ k st (mj_p0 M a fk z)
  | 1 => mj_l1 st fun z st => mj_a1 st fun a st => mj_iw G a (ci + 1) fun _ _ => k st (mj_p1 M a fk z)
  | _ => mj_r1 st fun z st => mj_a1 st fun a st => mj_iw G a (ci + 1) fun _ _ => k st (mj_p2 M a fk z)
def mj_ald (j : Nat) (st : List mj_V) (G : mj_G) (k : Nat → Nat → List mj_V → Prop) : Prop := mj_i1 st fun i st => mj_a1 st fun a st => mj_is G a (100 + j) fun _ n => 0 ≤ i ∧ i < n ∧ k a i.toNat st
def mj_aldw (j : Nat) (st : List mj_V) (G : mj_G) (k : Nat → Nat → List mj_V → Prop) : Prop := mj_i1 st fun i st => mj_a1 st fun a st => mj_iw G a (100 + j) fun _ n => 0 ≤ i ∧ i < n ∧ k a i.toNat st
def mj_bald (st : List mj_V) (G : mj_G) (k : Nat → Nat → List mj_V → Prop) : Prop := mj_ald 1 st G k ∨ mj_ald 2 st G k
/-- the narrowing of an int that is kept as a byte -/
def mj_nb (z : Int) : Int := (Int32.ofInt z).toInt8.toInt32.toInt
def mj_new (G : mj_G) (M : mj_M) (t n : Nat) (k : Nat → mj_G → mj_M → Prop) : Prop := ∀ a, (∀ x, a ≤ x → G x = (0, 0)) → k a (mj_g G a t n) (mj_z M a)
/-- the first n values of the stack, the deepest first -/
def mj_pop : Nat → List mj_V → List mj_V → (List mj_V → List mj_V → Prop) → Prop
  | 0, acc, st, k => k acc st
  | _ + 1, _, [], _ => False
  | n + 1, acc, v :: st, k => mj_pop n (v :: acc) st k
def mj_ret (r : Option mj_V) (st : List mj_V) : List mj_V := match r with
  | none => st
  | some v => v :: st
/-- a switch's targets, from v on -/
def mj_sw (z : Int) (k : Nat → Prop) : Int → List Nat → Prop
  | _, [] => True
  | v, t :: ts => (z = v → k t) ∧ mj_sw z k (v + 1) ts
def mj_cp0 (M : mj_M) (a b sp dp n : Nat) : mj_M := (fun x j => if x = b ∧ dp ≤ j ∧ j < dp + n then M.1 a (sp + (j - dp)) else M.1 x j, M.2.1, M.2.2)
def mj_cp1 (M : mj_M) (a b sp dp n : Nat) : mj_M := (M.1, fun x j => if x = b ∧ dp ≤ j ∧ j < dp + n then M.2.1 a (sp + (j - dp)) else M.2.1 x j, M.2.2)
def mj_cpy (j : Nat) (st : List mj_V) (G : mj_G) (k : Nat → Nat → Nat → Nat → Nat → List mj_V → Prop) : Prop := mj_i1 st fun n st => mj_i1 st fun dp st => mj_a1 st fun b st => mj_i1 st fun sp st => mj_a1 st fun a st => mj_is G a (100 + j) fun _ na => mj_iw G b (100 + j) fun _ nb => 0 ≤ sp ∧ 0 ≤ dp ∧ 0 ≤ n ∧ sp + n ≤ na ∧ dp + n ≤ nb ∧ mj_cat st ≤ 8 ∧ k a b sp.toNat dp.toNat n.toNat st
/-- Math.max, Math.min, Math.abs, and the copying of arrays -/
def mj_lib (f : Nat) (st : List mj_V) (G : mj_G) (M : mj_M) (k : List mj_V → mj_M → Prop) : Prop := match f with
  | 0 => mj_i1 st fun y st => mj_i1 st fun x st => mj_cat st ≤ 8 ∧ ∀ z, (x < y → z = y) → (¬ x < y → z = x) → k (.inl z :: st) M
  | 1 => mj_i1 st fun y st => mj_i1 st fun x st => mj_cat st ≤ 8 ∧ ∀ z, (y < x → z = y) → (¬ y < x → z = x) → k (.inl z :: st) M
  | 2 => mj_i1 st fun x st => mj_cat st ≤ 8 ∧ ∀ z, mj_in z → (0 ≤ x → z = x) → (x < 0 → x ≠ -2147483648 → z = -x) → k (.inl z :: st) M
  | 3 => mj_cpy 0 st G fun a b sp dp n st => k st (mj_cp0 M a b sp dp n)
  | 4 => mj_cpy 3 st G fun a b sp dp n st => k st (mj_cp1 M a b sp dp n)
  | _ => False
/-! the words: their names, what each says, their codes; their tags; the tag of the list of all -/
def mj_wn : List String := ["TOWN", "WATER", "BID", "NEEDS", "MILLS", "BRIDGES", "FIELDS", "MOVE", "FISH", "PATIENCE", "LET", "SEA", "OR", "AND", "NOT", "SHORES", "THIRSTY", "PONDS", "PURSES", "PAYS", "DRY", "LETTINGS", "GREEN", "PLACE"]
def mj_ww : List Int := [-1, -1, -1, 4, 5, 6, 7, -1, -1, -1, -1, -1, -1, -1, -1, -1, -1, 0, 1, 5, 7, 4, 8, 11]
def mj_wc : List Int64 := [671470, 24170674, 2340, 464036, 435596, 86282469, 6591876, 442053, 206440, 551510259813, 12468, 19617, 498, 1476, 14836, 20201029, 21753319065, 540100, 17484389, 525604, 4697, 398995, 7935150, 17171557]
def mj_wt (k : Nat) : Nat × Nat := cond (Nat.blt k 24) (900050 + 1000 * k, 0) (900105, 24)
def mj_gw (fk : Nat) (st : List mj_V) (G : mj_G) (k : List mj_V → Prop) : Prop := mj_a1 st fun a st => mj_is G a 50 fun t _ => match fk with
  | 0 => k (.inr (.inl (mj_wc.getD ((t - 900050) / 1000) 0)) :: st)
  | _ => k (.inl (mj_ww.getD ((t - 900050) / 1000) 0) :: st)
def mj_dv (st : List mj_V) (g : Int32 → Int32 → Int32) (k : List mj_V → Prop) : Prop := mj_i1 st fun y st => mj_i1 st fun x st => y ≠ 0 ∧ ∀ z, mj_in z → z = (g (Int32.ofInt x) (Int32.ofInt y)).toInt → k (.inl z :: st)
def mj_ll (st : List mj_V) (g : Int64 → Int64 → Int64) (k : List mj_V → Prop) : Prop := mj_l1 st fun y st => mj_l1 st fun x st => k (.inr (.inl (g x y)) :: st)
def mj_ls (st : List mj_V) (g : Int64 → Int64 → Int64) (k : List mj_V → Prop) : Prop := mj_i1 st fun y st => mj_l1 st fun x st => k (.inr (.inl (g x ((Int32.ofInt y).toInt64 &&& 63))) :: st)
def mj_rc (c : ClassFile.ACond) (x y : Option Nat) : Prop := match c with
  | .eq => x = y
  | .ne => x ≠ y
/-- n instructions, then K (mcs: what a callee makes, cells and slots) -/
def mj_x (mcs : Nat → Nat × Nat) (C : mj_C) (full : List mj_E) (Q : mj_P) (K : List mj_E → mj_L → List mj_V → mj_G → mj_M → Nat → Nat → Prop) : Nat → List mj_E → mj_L → List mj_V → mj_G → mj_M → Nat → Nat → Prop
  | 0, rest, L, st, G, M, cb, sb => K rest L st G M cb sb
  | _ + 1, [], _, _, _, _, _, _ => False
  | n + 1, x :: rest, L, st, G, M, cb, sb => match x.1 with
    | .iload_n i => mj_ldi L i.val fun v => mj_x mcs C full Q K n rest L (v :: st) G M cb sb
    | .iload i => mj_ldi L i fun v => mj_x mcs C full Q K n rest L (v :: st) G M cb sb
    | .lload_n i => mj_ldl L i.val fun v => mj_x mcs C full Q K n rest L (v :: st) G M cb sb
    | .lload i => mj_ldl L i fun v => mj_x mcs C full Q K n rest L (v :: st) G M cb sb
    | .aload_n i => mj_lda L i.val fun v => mj_x mcs C full Q K n rest L (v :: st) G M cb sb
    | .aload i => mj_lda L i fun v => mj_x mcs C full Q K n rest L (v :: st) G M cb sb
    | .istore_n i => mj_i1 st fun z st => mj_x mcs C full Q K n rest (mj_s1 L i.val (.inl z)) st G M cb sb
    | .istore i => mj_i1 st fun z st => mj_x mcs C full Q K n rest (mj_s1 L i (.inl z)) st G M cb sb
    | .lstore_n i => mj_l1 st fun z st => mj_x mcs C full Q K n rest (mj_s2 L i.val (.inr (.inl z))) st G M cb sb
    | .lstore i => mj_l1 st fun z st => mj_x mcs C full Q K n rest (mj_s2 L i (.inr (.inl z))) st G M cb sb
    | .astore_n i => mj_r1 st fun z st => mj_x mcs C full Q K n rest (mj_s1 L i.val (.inr (.inr z))) st G M cb sb
    | .astore i => mj_r1 st fun z st => mj_x mcs C full Q K n rest (mj_s1 L i (.inr (.inr z))) st G M cb sb
    | .iinc i c => mj_ldi L i fun v => mj_i1 [v] fun z _ => (mj_in (z + c) ∧ mj_x mcs C full Q K n rest (mj_s1 L i (.inl (z + c))) st G M cb sb) ∨ ∀ q, mj_in q → q = (Int32.ofInt z + Int32.ofInt c).toInt → mj_x mcs C full Q K n rest (mj_s1 L i (.inl q)) st G M cb sb
    | .iconst z => mj_x mcs C full Q K n rest L (.inl z :: st) G M cb sb
    | .bipush z => mj_x mcs C full Q K n rest L (.inl z :: st) G M cb sb
    | .sipush z => mj_x mcs C full Q K n rest L (.inl z :: st) G M cb sb
    | .ldc _ => mj_x mcs C full Q K n rest L (.inl x.2.2.2 :: st) G M cb sb
    | .ldc2_w _ => mj_x mcs C full Q K n rest L (.inr (.inl (Int64.ofInt x.2.2.2)) :: st) G M cb sb
    | .lconst z => mj_x mcs C full Q K n rest L (.inr (.inl (Int64.ofNat z.val)) :: st) G M cb sb
    | .aconst_null => mj_x mcs C full Q K n rest L (.inr (.inr none) :: st) G M cb sb
    | .iadd => mj_bin (fun x y => x + y) st (fun x y => x + y) fun st => mj_x mcs C full Q K n rest L st G M cb sb
    | .isub => mj_bin (fun x y => x - y) st (fun x y => x - y) fun st => mj_x mcs C full Q K n rest L st G M cb sb
    | .imul => mj_bin (fun x y => x * y) st (fun x y => x * y) fun st => mj_x mcs C full Q K n rest L st G M cb sb
    | .iand => mj_op st (fun x y => x &&& y) fun st => mj_x mcs C full Q K n rest L st G M cb sb
    | .ior => mj_op st (fun x y => x ||| y) fun st => mj_x mcs C full Q K n rest L st G M cb sb
    | .ishl => mj_op st (fun x y => x <<< (y &&& 31)) fun st => mj_x mcs C full Q K n rest L st G M cb sb
    | .ishr => mj_op st (fun x y => x >>> (y &&& 31)) fun st => mj_x mcs C full Q K n rest L st G M cb sb
    | .iushr => mj_op st (fun x y => (x.toUInt32 >>> (y.toUInt32 &&& Int32.toUInt32 31)).toInt32) fun st => mj_x mcs C full Q K n rest L st G M cb sb
    | .ineg => mj_un st (fun x => -x) fun st => mj_x mcs C full Q K n rest L st G M cb sb
    | .i2b => mj_un st (fun x => x.toInt8.toInt32) fun st => mj_x mcs C full Q K n rest L st G M cb sb
    | .dup => mj_c1 st fun v st => mj_x mcs C full Q K n rest L (v :: v :: st) G M cb sb
    | .dup2 => mj_c1 st fun v st => mj_c1 st fun w st => mj_x mcs C full Q K n rest L (v :: w :: v :: w :: st) G M cb sb
    | .pop => mj_c1 st fun _ st => mj_x mcs C full Q K n rest L st G M cb sb
    | .ifCond c _ => mj_i1 st fun z st => mj_br (mj_cc c z 0) (mj_x mcs C full Q K n (full.drop (mj_hd x.2.2.1)) L st G M cb sb) (mj_x mcs C full Q K n rest L st G M cb sb)
    | .if_icmp c _ => mj_i1 st fun y st => mj_i1 st fun z st => mj_br (mj_cc c z y) (mj_x mcs C full Q K n (full.drop (mj_hd x.2.2.1)) L st G M cb sb) (mj_x mcs C full Q K n rest L st G M cb sb)
    | .ifnull _ => mj_r1 st fun z st => mj_br (z = none) (mj_x mcs C full Q K n (full.drop (mj_hd x.2.2.1)) L st G M cb sb) (mj_x mcs C full Q K n rest L st G M cb sb)
    | .ifnonnull _ => mj_r1 st fun z st => mj_br (z ≠ none) (mj_x mcs C full Q K n (full.drop (mj_hd x.2.2.1)) L st G M cb sb) (mj_x mcs C full Q K n rest L st G M cb sb)
    | .goto _ => mj_x mcs C full Q K n (full.drop (mj_hd x.2.2.1)) L st G M cb sb
    | .getfield _ => x.2.2.1 ≠ [] ∧ mj_br (mj_hd x.2.2.1 = 49) (mj_gw (mj_h1 x.2.2.1) st G fun st => mj_x mcs C full Q K n rest L st G M cb sb) (mj_get (mj_hd x.2.2.1) (mj_h1 x.2.2.1) st G M fun st => mj_x mcs C full Q K n rest L st G M cb sb)
    | .putfield _ => x.2.2.1 ≠ [] ∧ mj_put (mj_hd x.2.2.1) (mj_h1 x.2.2.1) st G M fun st M => mj_x mcs C full Q K n rest L st G M cb sb
    | .iaload => mj_ald 0 st G fun a i st => mj_x mcs C full Q K n rest L (.inl (M.1 a i) :: st) G M cb sb
    | .baload => mj_bald st G fun a i st => mj_x mcs C full Q K n rest L (.inl (M.1 a i) :: st) G M cb sb
    | .laload => mj_ald 3 st G fun a i st => mj_x mcs C full Q K n rest L (.inr (.inl (M.2.1 a i)) :: st) G M cb sb
    | .aaload => mj_ald (mj_hd x.2.2.1) st G fun a i st => mj_rf (M.2.2 a i) fun v => mj_x mcs C full Q K n rest L (v :: st) G M cb sb
    | .iastore => mj_i1 st fun z st => mj_aldw 0 st G fun a i st => mj_x mcs C full Q K n rest L st G (mj_p0 M a i z) cb sb
    | .bastore => mj_i1 st fun z st => (mj_aldw 1 st G fun a i st => mj_x mcs C full Q K n rest L st G (mj_p0 M a i (mj_nb z)) cb sb) ∨ ((z = 0 ∨ z = 1) ∧ mj_aldw 2 st G fun a i st => mj_x mcs C full Q K n rest L st G (mj_p0 M a i z) cb sb)
    | .lastore => mj_l1 st fun z st => mj_aldw 3 st G fun a i st => mj_x mcs C full Q K n rest L st G (mj_p1 M a i z) cb sb
    | .anewarray _ => mj_i1 st fun z st => 0 ≤ z ∧ z ≤ 100000 ∧ 1 ≤ cb ∧ z.toNat ≤ sb ∧ ∃ t, t % 1000 = 100 + mj_hd x.2.2.1 ∧ mj_new G M t z.toNat fun a G M => mj_x mcs C full Q K n rest L (.inr (.inr (some a)) :: st) G M (cb - 1) (sb - z.toNat)
    | .aastore => mj_r1 st fun z st => mj_aldw (mj_hd x.2.2.1) st G fun a i st => (∀ b, z = some b → (mj_hd x.2.2.1 = 6 ∧ mj_is G b 7 fun _ _ => True) ∨ (mj_hd x.2.2.1 = 5 ∧ mj_is G b 50 fun _ _ => True)) ∧ mj_x mcs C full Q K n rest L st G (mj_p2 M a i z) cb sb
    | .tableswitch _ lo hi _ => mj_i1 st fun z st => (z < lo ∨ hi < z → mj_x mcs C full Q K n (full.drop (mj_hd x.2.2.1)) L st G M cb sb) ∧ mj_sw z (fun t => mj_x mcs C full Q K n (full.drop t) L st G M cb sb) lo (x.2.2.1.drop 1)
    | .arraylength => mj_a1 st fun a st => ∃ t k j, G a = (t, k) ∧ t % 1000 = 100 + j ∧ j < 7 ∧ mj_in k ∧ mj_x mcs C full Q K n rest L (.inl k :: st) G M cb sb
    | .newarray _ => mj_i1 st fun z st => 0 ≤ z ∧ z ≤ 100000 ∧ 1 ≤ cb ∧ z.toNat ≤ sb ∧ ∃ t, t % 1000 = 100 + mj_hd x.2.2.1 ∧ mj_new G M t z.toNat fun a G M => mj_x mcs C full Q K n rest L (.inr (.inr (some a)) :: st) G M (cb - 1) (sb - z.toNat)
    | .multianewarray _ _ => mj_i1 st fun z st => mj_i1 st fun y st => 0 ≤ z ∧ z ≤ 1000 ∧ 0 ≤ y ∧ y ≤ 1000 ∧ 1 + y.toNat ≤ cb ∧ y.toNat + y.toNat * z.toNat ≤ sb ∧ ∃ t t2, t % 1000 = 104 ∧ t2 % 1000 = 100 ∧ ∀ a, (∀ x, a ≤ x → G x = (0, 0)) → mj_x mcs C full Q K n rest L (.inr (.inr (some a)) :: st) (mj_gg G a t y.toNat t2 z.toNat) (mj_zz M a y.toNat) (cb - (1 + y.toNat)) (sb - (y.toNat + y.toNat * z.toNat))
    | .new _ => x.2.2.1 ≠ [] ∧ 1 ≤ cb ∧ mj_h1 x.2.2.1 ≤ sb ∧ ∃ t, t % 1000 = mj_hd x.2.2.1 + 1 ∧ mj_new G M t 0 fun a G M => mj_x mcs C full Q K n rest L (.inr (.inr (some a)) :: st) G M (cb - 1) (sb - mj_h1 x.2.2.1)
    | .invokevirtual _ => x.2.2.1 ≠ [] ∧ mj_pop (mj_h1 x.2.2.1) [] st fun As st => mj_a1 st fun a st => mj_is G a (mj_h2 x.2.2.1 + 1) fun _ _ => mj_cat st ≤ 8 ∧ (mcs (mj_hd x.2.2.1)).1 ≤ cb ∧ (mcs (mj_hd x.2.2.1)).2 ≤ sb ∧ C (mj_hd x.2.2.1) (.inr (.inr (some a)) :: As) G M fun r G M => mj_x mcs C full Q K n rest L (mj_ret r st) G M (cb - (mcs (mj_hd x.2.2.1)).1) (sb - (mcs (mj_hd x.2.2.1)).2)
    | .invokestatic _ => match x.2.2.1 with
      | [f, _] => mj_lib f st G M fun st M => mj_x mcs C full Q K n rest L st G M cb sb
      | _ => x.2.2.1 ≠ [] ∧ mj_pop (mj_h1 x.2.2.1) [] st fun As st => mj_cat st ≤ 8 ∧ (mcs (mj_hd x.2.2.1)).1 ≤ cb ∧ (mcs (mj_hd x.2.2.1)).2 ≤ sb ∧ C (mj_hd x.2.2.1) As G M fun r G M => mj_x mcs C full Q K n rest L (mj_ret r st) G M (cb - (mcs (mj_hd x.2.2.1)).1) (sb - (mcs (mj_hd x.2.2.1)).2)
    | .invokespecial _ => match x.2.2.1 with
      | [] => mj_a1 st fun _ st => mj_cat st ≤ 8 ∧ mj_x mcs C full Q K n rest L st G M cb sb
      | y :: _ => mj_pop (mj_h1 x.2.2.1) [] st fun As st => mj_a1 st fun a st => mj_is G a (mj_h2 x.2.2.1 + 1) fun _ _ => mj_cat st ≤ 8 ∧ (mcs y).1 ≤ cb ∧ (mcs y).2 ≤ sb ∧ C y (.inr (.inr (some a)) :: As) G M fun r G M => mj_x mcs C full Q K n rest L (mj_ret r st) G M (cb - (mcs y).1) (sb - (mcs y).2)
    | .ireturn => mj_i1 st fun z st => st = [] ∧ (x.2.2.2 = 1 → z = 0 ∨ z = 1) ∧ Q (some (.inl z)) G M
    | .ldc_w _ => mj_x mcs C full Q K n rest L (.inl x.2.2.2 :: st) G M cb sb
    | .idiv => mj_dv st (fun x y => x / y) fun st => mj_x mcs C full Q K n rest L st G M cb sb
    | .irem => mj_dv st (fun x y => x - x / y * y) fun st => mj_x mcs C full Q K n rest L st G M cb sb
    | .lor => mj_ll st (fun x y => x ||| y) fun st => mj_x mcs C full Q K n rest L st G M cb sb
    | .land => mj_ll st (fun x y => x &&& y) fun st => mj_x mcs C full Q K n rest L st G M cb sb
    | .lshl => mj_ls st (fun x y => x <<< y) fun st => mj_x mcs C full Q K n rest L st G M cb sb
    | .lshr => mj_ls st (fun x y => x >>> y) fun st => mj_x mcs C full Q K n rest L st G M cb sb
    | .lcmp => mj_l1 st fun y st => mj_l1 st fun w st => ∀ z, mj_in z → z = (lg_cmp w y).toInt → mj_x mcs C full Q K n rest L (.inl z :: st) G M cb sb
    | .i2l => mj_i1 st fun z st => mj_x mcs C full Q K n rest L (.inr (.inl (Int32.ofInt z).toInt64) :: st) G M cb sb
    | .l2i => mj_l1 st fun w st => ∀ z, mj_in z → z = w.toInt32.toInt → mj_x mcs C full Q K n rest L (.inl z :: st) G M cb sb
    | .if_acmp c _ => mj_r1 st fun y st => mj_r1 st fun z st => mj_br (mj_rc c z y) (mj_x mcs C full Q K n (full.drop (mj_hd x.2.2.1)) L st G M cb sb) (mj_x mcs C full Q K n rest L st G M cb sb)
    | .getstatic _ => x.2.2.1 ≠ [] ∧ ∀ a, G a = mj_wt (mj_hd x.2.2.1) → mj_x mcs C full Q K n rest L (.inr (.inr (some a)) :: st) G M cb sb
    | .areturn => mj_r1 st fun z st => st = [] ∧ Q (some (.inr (.inr z))) G M
    | .return_ => st = [] ∧ Q none G M
    | _ => False
abbrev mj_S : Type := List mj_E → mj_L → List mj_V → mj_G → mj_M → Nat → Nat → Prop
/-- it comes to an end with Q: the least of what is closed under the machine's step -/
def mj_W (mcs : Nat → Nat × Nat) (C : mj_C) (full : List mj_E) (Q : mj_P) : mj_S := fun rest L st G M cb sb => ∀ K : mj_S, (∀ rest L st G M cb sb, mj_x mcs C full Q K 1 rest L st G M cb sb → K rest L st G M cb sb) → K rest L st G M cb sb
