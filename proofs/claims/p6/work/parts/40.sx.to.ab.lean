section
/-! ===== a symbolic run of the small machine, by a program: ints known or by a sign with bounds, cells by numbers ===== -/
abbrev sx_I : Type := Int ⊕ Nat
abbrev sx_V : Type := sx_I ⊕ (Int64 ⊕ Option Nat)
abbrev sx_L : Type := List (Option sx_V)
abbrev sx_c : Type := Nat × Nat × Lean.RArray sx_I × Lean.RArray Int64 × Lean.RArray (Option Nat)
abbrev sx_H : Type := Nat × Lean.RArray sx_c
abbrev sx_Y : Type := List (Int × Int)
abbrev sx_F : Type := Nat × Nat × List mj_E × sx_L × List sx_V × Nat × Nat
abbrev sx_K : Type := Nat → Nat → List mj_E → sx_L → List sx_V → Nat → Nat → List sx_F → sx_H → sx_Y → Bool
/-! a tree by the bits of a number, the lowest first -/
noncomputable def sx_g {β : Type} (t : Lean.RArray β) : Nat → β := Lean.RArray.rec (motive := fun _ => Nat → β) (fun a _ => a) (fun _ _ _ l r k => cond (Nat.beq (Nat.mod k 2) 0) (l (Nat.div k 2)) (r (Nat.div k 2))) t
def sx_s {β : Type} : Nat → Lean.RArray β → Nat → β → Lean.RArray β
  | 0, _, _, v => .leaf v
  | d + 1, .leaf a, k, v => cond (Nat.beq (Nat.mod k 2) 0) (.branch 0 (sx_s d (.leaf a) (Nat.div k 2) v) (.leaf a)) (.branch 0 (.leaf a) (sx_s d (.leaf a) (Nat.div k 2) v))
  | d + 1, .branch p l r, k, v => cond (Nat.beq (Nat.mod k 2) 0) (.branch p (sx_s d l (Nat.div k 2) v) r) (.branch p l (sx_s d r (Nat.div k 2) v))
noncomputable def sx_sk {β : Type} (d : Nat) : Lean.RArray β → Nat → β → (Lean.RArray β → Bool) → Bool := Nat.rec (motive := fun _ => Lean.RArray β → Nat → β → (Lean.RArray β → Bool) → Bool) (fun _ _ v K => K (.leaf v))
  (fun _ ih t k v K => Lean.RArray.casesOn (motive := fun _ => Bool) t
    (fun a => cond (Nat.beq (Nat.mod k 2) 0) (ih (.leaf a) (Nat.div k 2) v fun l => K (.branch 0 l (.leaf a))) (ih (.leaf a) (Nat.div k 2) v fun r => K (.branch 0 (.leaf a) r)))
    (fun p l r => cond (Nat.beq (Nat.mod k 2) 0) (ih l (Nat.div k 2) v fun l' => K (.branch p l' r)) (ih r (Nat.div k 2) v fun r' => K (.branch p l r')))) d
/-! numbers -/
def sx_le (x y : Int) : Bool := match x, y with
  | .ofNat a, .ofNat b => Nat.ble a b
  | .negSucc _, .ofNat _ => true
  | .ofNat _, .negSucc _ => false
  | .negSucc a, .negSucc b => Nat.ble b a
def sx_eq (x y : Int) : Bool := sx_le x y && sx_le y x
def sx_in (lo hi : Int) : Bool := sx_le (.negSucc 2147483647) lo && sx_le hi (.ofNat 2147483647)
def sx_fn (n : Nat) (k : Nat → Bool) : Bool := match n with
  | 0 => k 0
  | m + 1 => k (Nat.succ m)
def sx_fi (z : Int) (k : Int → Bool) : Bool := match z with
  | .ofNat n => sx_fn n fun n => k (.ofNat n)
  | .negSucc n => sx_fn n fun n => k (.negSucc n)
def sx_ny : sx_Y → Nat → Option (Int × Int)
  | [], _ => none
  | x :: _, 0 => some x
  | _ :: t, n + 1 => sx_ny t n
def sx_iv (Y : sx_Y) (x : sx_I) (k : Int → Int → Bool) : Bool := match x with
  | .inl z => k z z
  | .inr i => match sx_ny Y i with
    | some q => k q.1 q.2
    | none => false
def sx_kn (Y : sx_Y) (x : sx_I) (k : Int → Bool) : Bool := sx_iv Y x fun lo hi => cond (sx_eq lo hi) (k lo) false
/-- a new sign -/
def sx_fr (Y : sx_Y) (lo hi : Int) (k : sx_I → sx_Y → Bool) : Bool := k (.inr Y.length) (Y ++ [(lo, hi)])
def sx_ff (Y : sx_Y) (k : sx_I → sx_Y → Bool) : Bool := sx_fr Y (.negSucc 2147483647) (.ofNat 2147483647) k
/-- a result within bounds -/
def sx_ai (Y : sx_Y) (lo hi : Int) (k : sx_I → sx_Y → Bool) (no : Bool) : Bool := sx_fi lo fun lo => sx_fi hi fun hi => cond (sx_in lo hi) (cond (sx_eq lo hi) (k (.inl lo) Y) (sx_fr Y lo hi k)) no
def sx_ar (Y : sx_Y) (lo hi : Int) (k : sx_I → sx_Y → Bool) : Bool := sx_ai Y lo hi k (sx_ff Y k)
/-- every value from lo on, n of them -/
def sx_all (n : Nat) (lo : Int) (k : Int → Bool) : Bool := match n with
  | 0 => true
  | n + 1 => sx_fi lo k && sx_all n (lo + 1) k
/-- the value of an index: each that it may be -/
def sx_sp (Y : sx_Y) (x : sx_I) (k : Int → sx_Y → Bool) : Bool := match x with
  | .inl z => k z Y
  | .inr i => match sx_ny Y i with
    | some q => cond (sx_le (q.2 - q.1) (.ofNat 60)) (sx_all (q.2 + 1 - q.1).toNat q.1 fun z => k z (Y.set i (z, z))) false
    | none => false
/-! comparisons -/
def sx_may (c : ClassFile.Cond) (a b c' d : Int) : Bool := match c with
  | .eq => sx_le a d && sx_le c' b
  | .ne => !(sx_eq a b && sx_eq c' d && sx_eq a c')
  | .lt => !(sx_le d a)
  | .ge => sx_le c' b
  | .gt => !(sx_le b c')
  | .le => sx_le a d
def sx_neg (c : ClassFile.Cond) : ClassFile.Cond := match c with
  | .eq => .ne
  | .ne => .eq
  | .lt => .ge
  | .ge => .lt
  | .gt => .le
  | .le => .gt
def sx_swp (c : ClassFile.Cond) : ClassFile.Cond := match c with
  | .eq => .eq
  | .ne => .ne
  | .lt => .gt
  | .ge => .le
  | .gt => .lt
  | .le => .ge
def sx_rfn (c : ClassFile.Cond) (lo hi z : Int) : Int × Int := match c with
  | .eq => (z, z)
  | .ne => (cond (sx_eq lo z) (lo + 1) lo, cond (sx_eq hi z) (hi - 1) hi)
  | .lt => (lo, cond (sx_le z hi) (z - 1) hi)
  | .ge => (cond (sx_le lo z) z lo, hi)
  | .gt => (cond (sx_le lo z) (z + 1) lo, hi)
  | .le => (lo, cond (sx_le z hi) z hi)
/-- x is held against z, which is known -/
def sx_rf1 (c : ClassFile.Cond) (Y : sx_Y) (x : sx_I) (lo hi c' d : Int) : sx_Y := match x with
  | .inl _ => Y
  | .inr i => cond (sx_eq c' d) (Y.set i (sx_rfn c lo hi c')) Y
def sx_br1 (c : ClassFile.Cond) (Y : sx_Y) (x y : sx_I) (a b c' d : Int) (k : sx_Y → Bool) : Bool := cond (sx_may c a b c' d) (k (match x with
  | .inl _ => sx_rf1 (sx_swp c) Y y c' d a b
  | .inr _ => sx_rf1 c Y x a b c' d)) true
def sx_br (c : ClassFile.Cond) (Y : sx_Y) (x y : sx_I) (k k' : sx_Y → Bool) : Bool := sx_iv Y x fun a b => sx_iv Y y fun c' d => sx_br1 c Y x y a b c' d k && sx_br1 (sx_neg c) Y x y a b c' d k'
/-! places and stack -/
def sx_nt {β : Type} : List (Option β) → Nat → Option β
  | [], _ => none
  | x :: _, 0 => x
  | _ :: t, n + 1 => sx_nt t n
def sx_kl (L : sx_L) (i : Nat) : sx_L := match i with
  | 0 => L
  | j + 1 => match sx_nt L j with
    | some (.inr (.inl _)) => L.set j none
    | _ => L
def sx_s1 (L : sx_L) (i : Nat) (v : sx_V) : sx_L := (sx_kl L i).set i (some v)
def sx_s2 (L : sx_L) (i : Nat) (v : sx_V) : sx_L := ((sx_kl L i).set i (some v)).set (i + 1) none
def sx_cat : List sx_V → Nat
  | [] => 0
  | .inr (.inl _) :: t => 2 + sx_cat t
  | _ :: t => 1 + sx_cat t
def sx_ldi (L : sx_L) (i : Nat) (k : sx_I → Bool) : Bool := match sx_nt L i with
  | some (.inl z) => k z
  | _ => false
def sx_ldl (L : sx_L) (i : Nat) (k : Int64 → Bool) : Bool := match sx_nt L i with
  | some (.inr (.inl z)) => k z
  | _ => false
def sx_lda (L : sx_L) (i : Nat) (k : Option Nat → Bool) : Bool := match sx_nt L i with
  | some (.inr (.inr z)) => k z
  | _ => false
def sx_i1 (st : List sx_V) (k : sx_I → List sx_V → Bool) : Bool := match st with
  | .inl x :: t => k x t
  | _ => false
def sx_l1 (st : List sx_V) (k : Int64 → List sx_V → Bool) : Bool := match st with
  | .inr (.inl x) :: t => k x t
  | _ => false
def sx_r1 (st : List sx_V) (k : Option Nat → List sx_V → Bool) : Bool := match st with
  | .inr (.inr x) :: t => k x t
  | _ => false
def sx_a1 (st : List sx_V) (k : Nat → List sx_V → Bool) : Bool := match st with
  | .inr (.inr (some x)) :: t => k x t
  | _ => false
def sx_c1 (st : List sx_V) (k : sx_V → List sx_V → Bool) : Bool := match st with
  | .inl x :: t => k (.inl x) t
  | .inr (.inr x) :: t => k (.inr (.inr x)) t
  | _ => false
def sx_pop : Nat → List sx_V → List sx_V → (List sx_V → List sx_V → Bool) → Bool
  | 0, acc, st, k => k acc st
  | _ + 1, _, [], _ => false
  | n + 1, acc, v :: st, k => sx_pop n (v :: acc) st k
/-! arithmetic -/
def sx_op2 (Y : sx_Y) (st : List sx_V) (f : Int → Int → Int → Int → Option (Int × Int)) (k : sx_I → sx_Y → List sx_V → Bool) : Bool := sx_i1 st fun y st => sx_i1 st fun x st => sx_iv Y x fun a b => sx_iv Y y fun c d => match f a b c d with
  | some q => sx_ar Y q.1 q.2 fun x Y => k x Y st
  | none => sx_ff Y fun x Y => k x Y st
def sx_fadd (a b c d : Int) : Option (Int × Int) := some (a + c, b + d)
def sx_fsub (a b c d : Int) : Option (Int × Int) := some (a - d, b - c)
def sx_fmul (a b c d : Int) : Option (Int × Int) := cond (sx_eq a b && sx_eq c d) (some (a * c, a * c)) (cond (sx_eq c d && sx_le (.ofNat 0) c) (some (a * c, b * c)) (cond (sx_eq a b && sx_le (.ofNat 0) a) (some (a * c, a * d)) none))
def sx_bit (Y : sx_Y) (st : List sx_V) (an : Bool) (g : Int32 → Int32 → Int32) (k : sx_I → sx_Y → List sx_V → Bool) : Bool := sx_i1 st fun y st => sx_i1 st fun x st => sx_iv Y x fun a b => sx_iv Y y fun c d => cond (sx_eq c d) (cond (sx_eq a b) (sx_fi (g (Int32.ofInt a) (Int32.ofInt c)).toInt fun z => k (.inl z) Y st) (cond (an && (sx_le (.ofNat 0) c && sx_le c (.ofNat 2147483647))) (sx_fr Y (.ofNat 0) c fun x Y => k x Y st) (sx_ff Y fun x Y => k x Y st))) (sx_ff Y fun x Y => k x Y st)
def sx_un (Y : sx_Y) (st : List sx_V) (g : Int32 → Int32) (k : sx_I → sx_Y → List sx_V → Bool) : Bool := sx_i1 st fun x st => sx_iv Y x fun a b => cond (sx_eq a b) (sx_fi (g (Int32.ofInt a)).toInt fun z => k (.inl z) Y st) (sx_ff Y fun x Y => k x Y st)
/-! cells -/
noncomputable def sx_cl (h : sx_H) (i : Nat) (k : Nat → Nat → Lean.RArray sx_I → Lean.RArray Int64 → Lean.RArray (Option Nat) → Bool) : Bool := match sx_g h.2 i with
  | (t, n, a, b, c) => k t n a b c
noncomputable def sx_pt (h : sx_H) (i : Nat) (c : sx_c) (k : sx_H → Bool) : Bool := sx_sk 12 h.2 i c fun u => k (h.1, u)
noncomputable def sx_p0 (h : sx_H) (i j : Nat) (x : sx_I) (k : sx_H → Bool) : Bool := cond (Nat.blt j 4096) (sx_cl h i fun t n a b c => sx_sk 12 a j x fun a => sx_pt h i (t, n, a, b, c) k) false
noncomputable def sx_p1 (h : sx_H) (i j : Nat) (x : Int64) (k : sx_H → Bool) : Bool := cond (Nat.blt j 4096) (sx_cl h i fun t n a b c => sx_sk 12 b j x fun b => sx_pt h i (t, n, a, b, c) k) false
noncomputable def sx_p2 (h : sx_H) (i j : Nat) (x : Option Nat) (k : sx_H → Bool) : Bool := cond (Nat.blt j 4096) (sx_cl h i fun t n a b c => sx_sk 12 c j x fun c => sx_pt h i (t, n, a, b, c) k) false
def sx_nc (t n : Nat) : sx_c := (t, n, .leaf (.inl (.ofNat 0)), .leaf 0, .leaf none)
noncomputable def sx_nw (h : sx_H) (t n : Nat) (k : Nat → sx_H → Bool) : Bool := cond (Nat.blt h.1 4096) (sx_sk 12 h.2 h.1 (sx_nc t n) fun u => k h.1 (Nat.succ h.1, u)) false
/-- a boolean's bounds -/
def sx_tf (Y : sx_Y) (x : sx_I) : Bool := sx_iv Y x fun a b => sx_le (.ofNat 0) a && sx_le b (.ofNat 1)
def sx_isb (ty : FieldType) : Bool := match ty with
  | .boolean => true
  | _ => false
noncomputable def sx_get (ci fk : Nat) (st : List sx_V) (h : sx_H) (k : List sx_V → Bool) : Bool := cond (Nat.blt fk 4096) (sx_a1 st fun i st => sx_cl h i fun t _ a b c => cond (Nat.beq (Nat.mod t 1000) (ci + 1)) (match mj_so ci fk with
  | 0 => k (.inl (sx_g a fk) :: st)
  | 1 => k (.inr (.inl (sx_g b fk)) :: st)
  | _ => k (.inr (.inr (sx_g c fk)) :: st)) false) false
noncomputable def sx_wr (h : sx_H) (i s : Nat) (k : Bool) : Bool := sx_cl h i fun t _ _ _ _ => cond (Nat.beq (Nat.mod t 1000) s && Nat.blt t 900000) k false
noncomputable def sx_put (ci fk : Nat) (Y : sx_Y) (st : List sx_V) (h : sx_H) (k : List sx_V → sx_H → Bool) : Bool := match mj_so ci fk with
  | 0 => sx_i1 st fun z st => sx_a1 st fun i st => sx_wr h i (ci + 1) ((!sx_isb (mj_ty ci fk) || sx_tf Y z) && sx_p0 h i fk z fun h => k st h)
  | 1 => sx_l1 st fun z st => sx_a1 st fun i st => sx_wr h i (ci + 1) (sx_p1 h i fk z fun h => k st h)
  | _ => sx_r1 st fun z st => sx_a1 st fun i st => sx_wr h i (ci + 1) (sx_p2 h i fk z fun h => k st h)
/-- a place of an array: the array, its tag's rest, the index -/
noncomputable def sx_ix (Y : sx_Y) (st : List sx_V) (h : sx_H) (k : Nat → Nat → Nat → sx_c → sx_Y → List sx_V → Bool) : Bool := sx_i1 st fun x st => sx_a1 st fun i st => sx_cl h i fun t n a b c => sx_sp Y x fun z Y => cond (sx_le (.ofNat 0) z && (Nat.blt z.toNat n && Nat.blt z.toNat 4096)) (k i t z.toNat (t, n, a, b, c) Y st) false
/-! calls -/
def sx_wd : List sx_V → Nat
  | [] => 0
  | .inr (.inl _) :: t => 2 + sx_wd t
  | _ :: t => 1 + sx_wd t
def sx_en : List sx_V → Nat → sx_L
  | [], n => List.replicate n none
  | .inr (.inl w) :: t, n => some (.inr (.inl w)) :: none :: sx_en t (n - 2)
  | .inl z :: t, n => some (.inl z) :: sx_en t (n - 1)
  | .inr (.inr r) :: t, n => some (.inr (.inr r)) :: sx_en t (n - 1)
def sx_full (y : Nat) : List mj_E := cond (Nat.blt y 900) (mj_tab y).2.2.2.2.1 mj_law
noncomputable def sx_call (K : sx_K) (y d : Nat) (rest : List mj_E) (L : sx_L) (st : List sx_V) (cb sb : Nat) (fs : List sx_F) (h : sx_H) (Y : sx_Y) (f : Nat) (av : List sx_V) : Bool := match d with
  | 0 => false
  | d + 1 => cond (Nat.ble (sx_cat st) 8 && (Nat.ble (mj_tab f).2.2.2.2.2.2.1 cb && (Nat.ble (mj_tab f).2.2.2.2.2.2.2 sb && (Nat.ble (sx_wd av) (mj_tab f).2.2.1 && Nat.blt f 900)))) (K f d (mj_tab f).2.2.2.2.1 (sx_en av (mj_tab f).2.2.1) [] (mj_tab f).2.2.2.2.2.2.1 (mj_tab f).2.2.2.2.2.2.2 ((y, d + 1, rest, L, st, cb - (mj_tab f).2.2.2.2.2.2.1, sb - (mj_tab f).2.2.2.2.2.2.2) :: fs) h Y) false
def sx_back (K : sx_K) (fs : List sx_F) (h : sx_H) (Y : sx_Y) (r : Option sx_V) : Bool := match fs with
  | [] => match r with
    | some (.inl x) => sx_kn Y x fun z => sx_eq z (.ofNat 1)
    | _ => false
  | (y, d, rest, L, st, cb, sb) :: fs => match r with
    | none => K y d rest L st cb sb fs h Y
    | some v => K y d rest L (v :: st) cb sb fs h Y
def sx_swt (Y : sx_Y) (lo hi : Int) (k : Nat → sx_Y → Bool) (x : sx_I) : Int → List Nat → Bool
  | _, [] => true
  | v, t :: ts => cond (sx_le lo v && sx_le v hi) (k t (match x with
    | .inl _ => Y
    | .inr i => Y.set i (v, v))) true && sx_swt Y lo hi k x (v + 1) ts
noncomputable def sx_cpa {β : Type} : Nat → Lean.RArray β → Nat → Lean.RArray β → Nat → (Lean.RArray β → Bool) → Bool
  | 0, _, _, b, _, k => k b
  | n + 1, a, sp, b, dp, k => sx_sk 12 b (dp + n) (sx_g a (sp + n)) fun b => sx_cpa n a sp b dp k
/-- the rows of new int[n][m] -/
noncomputable def sx_rws (t m : Nat) : Nat → sx_H → (sx_H → Bool) → Bool
  | 0, h, k => k h
  | n + 1, h, k => sx_nw h t m fun _ h => sx_rws t m n h k
noncomputable def sx_rfs (b : Nat) : Nat → Lean.RArray (Option Nat) → (Lean.RArray (Option Nat) → Bool) → Bool
  | 0, u, k => k u
  | n + 1, u, k => sx_sk 12 u n (some (b + n)) fun u => sx_rfs b n u k
noncomputable def sx_lib (f : Nat) (Y : sx_Y) (st : List sx_V) (h : sx_H) (k : List sx_V → sx_H → Bool) : Bool := match f with
  | 0 => sx_i1 st fun y st => sx_i1 st fun x st => cond (Nat.ble (sx_cat st) 8) (sx_kn Y x fun x => sx_kn Y y fun y => k (.inl (.inl (cond (sx_le y x) x y)) :: st) h) false
  | 1 => sx_i1 st fun y st => sx_i1 st fun x st => cond (Nat.ble (sx_cat st) 8) (sx_kn Y x fun x => sx_kn Y y fun y => k (.inl (.inl (cond (sx_le x y) x y)) :: st) h) false
  | 3 => sx_i1 st fun n st => sx_i1 st fun dp st => sx_a1 st fun b st => sx_i1 st fun sp st => sx_a1 st fun a st => sx_kn Y n fun n => sx_kn Y dp fun dp => sx_kn Y sp fun sp => sx_cl h a fun ta na ia _ _ => sx_cl h b fun tb nb ib lb rb => cond (Nat.beq (Nat.mod ta 1000) 100 && (Nat.beq (Nat.mod tb 1000) 100 && (Nat.blt tb 900000 && (sx_le (.ofNat 0) sp && (sx_le (.ofNat 0) dp && (sx_le (.ofNat 0) n && (Nat.ble (sp.toNat + n.toNat) na && (Nat.ble (dp.toNat + n.toNat) nb && (Nat.ble na 4096 && (Nat.ble nb 4096 && Nat.ble (sx_cat st) 8)))))))))) (sx_cpa n.toNat ia sp.toNat ib dp.toNat fun ib => sx_pt h b (tb, nb, ib, lb, rb) fun h => k st h) false
  | 4 => sx_i1 st fun n st => sx_i1 st fun dp st => sx_a1 st fun b st => sx_i1 st fun sp st => sx_a1 st fun a st => sx_kn Y n fun n => sx_kn Y dp fun dp => sx_kn Y sp fun sp => sx_cl h a fun ta na _ ia _ => sx_cl h b fun tb nb lb ib rb => cond (Nat.beq (Nat.mod ta 1000) 103 && (Nat.beq (Nat.mod tb 1000) 103 && (Nat.blt tb 900000 && (sx_le (.ofNat 0) sp && (sx_le (.ofNat 0) dp && (sx_le (.ofNat 0) n && (Nat.ble (sp.toNat + n.toNat) na && (Nat.ble (dp.toNat + n.toNat) nb && (Nat.ble na 4096 && (Nat.ble nb 4096 && Nat.ble (sx_cat st) 8)))))))))) (sx_cpa n.toNat ia sp.toNat ib dp.toNat fun ib => sx_pt h b (tb, nb, lb, ib, rb) fun h => k st h) false
  | _ => false
/-- told of a fresh object: it throws, and the law's told answers 1 -/
noncomputable def sx_told (K : sx_K) (y d : Nat) (rest : List mj_E) (L : sx_L) (st : List sx_V) (cb sb : Nat) (fs : List sx_F) (h : sx_H) (Y : sx_Y) : Bool := sx_r1 st fun _ st => sx_i1 st fun _ st => sx_i1 st fun _ st => sx_a1 st fun x st => sx_cl h x fun t1 _ _ _ c1 => match sx_g c1 1 with
  | none => false
  | some b => sx_cl h b fun t2 _ _ _ c2 => match sx_g c2 0 with
    | none => false
    | some c => sx_cl h c fun t3 _ a3 _ _ => sx_kn Y (sx_g a3 4) fun z => cond (Nat.beq (Nat.mod t1 1000) 11 && (Nat.beq (Nat.mod t2 1000) 7 && (Nat.beq (Nat.mod t3 1000) 4 && (sx_eq z (.ofNat 0) && (Nat.ble (sx_cat st) 8 && (Nat.ble 4 cb && Nat.ble 64 sb)))))) (K y d rest L (.inl (.inl (.ofNat 1)) :: st) (cb - 4) (sb - 64) fs h Y) false
noncomputable def sx_tl (K : sx_K) (y d : Nat) (rest : List mj_E) (L : sx_L) (st : List sx_V) (cb sb : Nat) (fs : List sx_F) (h : sx_H) (Y : sx_Y) : Bool := match fs with
  | [] => sx_told K y d rest L st cb sb [] h Y
  | _ => false
/-- the law reads its script: signs 0 to 5 are its ints, sign 6 its length, cell 0 itself -/
def sx_scl (y d : Nat) (rest : List mj_E) (L : sx_L) (st : List sx_V) (cb sb : Nat) (fs : List sx_F) (h : sx_H) (Y : sx_Y) (K : sx_K) : Bool := fs.isEmpty && sx_i1 st fun x st => sx_a1 st fun i st => sx_kn Y x fun z => sx_iv Y (.inr 6) fun lo _ => cond (Nat.beq i 0 && (sx_le (.ofNat 0) z && (!sx_le lo z && Nat.blt z.toNat 6))) (K y d rest L (.inl (.inr z.toNat) :: st) cb sb fs h Y) false
def sx_sln (y d : Nat) (rest : List mj_E) (L : sx_L) (st : List sx_V) (cb sb : Nat) (fs : List sx_F) (h : sx_H) (Y : sx_Y) (K : sx_K) : Bool := fs.isEmpty && sx_a1 st fun i st => cond (Nat.beq i 0) (K y d rest L (.inl (.inr 6) :: st) cb sb fs h Y) false
/-- the law's sort of call: sign 7 is the script's first int, its six lowest bits -/
def sx_opc (y d : Nat) (rest : List mj_E) (L : sx_L) (st : List sx_V) (cb sb : Nat) (fs : List sx_F) (h : sx_H) (Y : sx_Y) (K : sx_K) : Bool := fs.isEmpty && sx_i1 st fun v st => sx_i1 st fun x st => match x with
  | .inr 0 => sx_kn Y v fun z => cond (sx_eq z (.ofNat 63)) (K y d rest L (.inl (.inr 7) :: st) cb sb fs h Y) false
  | _ => false
/-- one instruction -/
noncomputable def sx_st (K : sx_K) : sx_K := fun y d rest L st cb sb fs h Y => match rest with
  | [] => false
  | x :: rest => match x.1 with
    | .iload_n i => sx_ldi L i.val fun v => K y d rest L (.inl v :: st) cb sb fs h Y
    | .iload i => sx_ldi L i fun v => K y d rest L (.inl v :: st) cb sb fs h Y
    | .lload_n i => sx_ldl L i.val fun v => K y d rest L (.inr (.inl v) :: st) cb sb fs h Y
    | .lload i => sx_ldl L i fun v => K y d rest L (.inr (.inl v) :: st) cb sb fs h Y
    | .aload_n i => sx_lda L i.val fun v => K y d rest L (.inr (.inr v) :: st) cb sb fs h Y
    | .aload i => sx_lda L i fun v => K y d rest L (.inr (.inr v) :: st) cb sb fs h Y
    | .istore_n i => sx_i1 st fun z st => K y d rest (sx_s1 L i.val (.inl z)) st cb sb fs h Y
    | .istore i => sx_i1 st fun z st => K y d rest (sx_s1 L i (.inl z)) st cb sb fs h Y
    | .astore_n i => sx_r1 st fun z st => K y d rest (sx_s1 L i.val (.inr (.inr z))) st cb sb fs h Y
    | .astore i => sx_r1 st fun z st => K y d rest (sx_s1 L i (.inr (.inr z))) st cb sb fs h Y
    | .iinc i c => sx_ldi L i fun v => sx_iv Y v fun lo hi => sx_ai Y (lo + c) (hi + c) (fun v Y => K y d rest (sx_s1 L i (.inl v)) st cb sb fs h Y) false
    | .iconst z => K y d rest L (.inl (.inl z) :: st) cb sb fs h Y
    | .bipush z => K y d rest L (.inl (.inl z) :: st) cb sb fs h Y
    | .sipush z => K y d rest L (.inl (.inl z) :: st) cb sb fs h Y
    | .ldc _ => K y d rest L (.inl (.inl x.2.2.2) :: st) cb sb fs h Y
    | .ldc2_w _ => K y d rest L (.inr (.inl (Int64.ofInt x.2.2.2)) :: st) cb sb fs h Y
    | .lconst z => K y d rest L (.inr (.inl (Int64.ofNat z.val)) :: st) cb sb fs h Y
    | .aconst_null => K y d rest L (.inr (.inr none) :: st) cb sb fs h Y
    | .iadd => sx_op2 Y st sx_fadd fun v Y st => K y d rest L (.inl v :: st) cb sb fs h Y
    | .isub => sx_op2 Y st sx_fsub fun v Y st => K y d rest L (.inl v :: st) cb sb fs h Y
    | .imul => sx_op2 Y st sx_fmul fun v Y st => K y d rest L (.inl v :: st) cb sb fs h Y
    | .iand => cond (Nat.beq y 900) (sx_opc y d rest L st cb sb fs h Y K) (sx_bit Y st true (fun x y => x &&& y) fun v Y st => K y d rest L (.inl v :: st) cb sb fs h Y)
    | .ior => sx_bit Y st false (fun x y => x ||| y) fun v Y st => K y d rest L (.inl v :: st) cb sb fs h Y
    | .ishl => sx_bit Y st false (fun x y => x <<< (y &&& 31)) fun v Y st => K y d rest L (.inl v :: st) cb sb fs h Y
    | .ishr => sx_bit Y st false (fun x y => x >>> (y &&& 31)) fun v Y st => K y d rest L (.inl v :: st) cb sb fs h Y
    | .iushr => sx_bit Y st false (fun x y => (x.toUInt32 >>> (y.toUInt32 &&& Int32.toUInt32 31)).toInt32) fun v Y st => K y d rest L (.inl v :: st) cb sb fs h Y
    | .ineg => sx_un Y st (fun x => -x) fun v Y st => K y d rest L (.inl v :: st) cb sb fs h Y
    | .i2b => sx_un Y st (fun x => x.toInt8.toInt32) fun v Y st => K y d rest L (.inl v :: st) cb sb fs h Y
    | .dup => sx_c1 st fun v st => K y d rest L (v :: v :: st) cb sb fs h Y
    | .dup2 => sx_c1 st fun v st => sx_c1 st fun w st => K y d rest L (v :: w :: v :: w :: st) cb sb fs h Y
    | .pop => sx_c1 st fun _ st => K y d rest L st cb sb fs h Y
    | .ifCond c _ => sx_i1 st fun z st => sx_br c Y z (.inl (.ofNat 0)) (fun Y => K y d ((sx_full y).drop (mj_hd x.2.2.1)) L st cb sb fs h Y) (fun Y => K y d rest L st cb sb fs h Y)
    | .if_icmp c _ => sx_i1 st fun v st => sx_i1 st fun z st => sx_br c Y z v (fun Y => K y d ((sx_full y).drop (mj_hd x.2.2.1)) L st cb sb fs h Y) (fun Y => K y d rest L st cb sb fs h Y)
    | .ifnull _ => sx_r1 st fun z st => match z with
      | none => K y d ((sx_full y).drop (mj_hd x.2.2.1)) L st cb sb fs h Y
      | some _ => K y d rest L st cb sb fs h Y
    | .ifnonnull _ => sx_r1 st fun z st => match z with
      | some _ => K y d ((sx_full y).drop (mj_hd x.2.2.1)) L st cb sb fs h Y
      | none => K y d rest L st cb sb fs h Y
    | .goto _ => K y d ((sx_full y).drop (mj_hd x.2.2.1)) L st cb sb fs h Y
    | .getfield _ => !x.2.2.1.isEmpty && (Nat.blt (mj_hd x.2.2.1) 49 && sx_get (mj_hd x.2.2.1) (mj_h1 x.2.2.1) st h fun st => K y d rest L st cb sb fs h Y)
    | .putfield _ => !x.2.2.1.isEmpty && sx_put (mj_hd x.2.2.1) (mj_h1 x.2.2.1) Y st h fun st h => K y d rest L st cb sb fs h Y
    | .iaload => cond (Nat.beq y 900) (sx_scl y d rest L st cb sb fs h Y K) (sx_ix Y st h fun _ t k c Y st => cond (Nat.beq (Nat.mod t 1000) 100) (K y d rest L (.inl (sx_g c.2.2.1 k) :: st) cb sb fs h Y) false)
    | .baload => sx_ix Y st h fun _ t k c Y st => cond (Nat.beq (Nat.mod t 1000) 101 || Nat.beq (Nat.mod t 1000) 102) (K y d rest L (.inl (sx_g c.2.2.1 k) :: st) cb sb fs h Y) false
    | .laload => sx_ix Y st h fun _ t k c Y st => cond (Nat.beq (Nat.mod t 1000) 103) (K y d rest L (.inr (.inl (sx_g c.2.2.2.1 k)) :: st) cb sb fs h Y) false
    | .aaload => sx_ix Y st h fun _ t k c Y st => cond (Nat.beq (Nat.mod t 1000) (100 + mj_hd x.2.2.1)) (K y d rest L (.inr (.inr (sx_g c.2.2.2.2 k)) :: st) cb sb fs h Y) false
    | .iastore => sx_i1 st fun z st => sx_ix Y st h fun i t k _ Y st => cond (Nat.beq (Nat.mod t 1000) 100 && Nat.blt t 900000) (sx_p0 h i k z fun h => K y d rest L st cb sb fs h Y) false
    | .bastore => sx_i1 st fun z st => sx_ix Y st h fun i t k _ Y st => cond (Nat.blt t 900000) (cond (Nat.beq (Nat.mod t 1000) 101) (sx_iv Y z fun a b => cond (sx_eq a b) (sx_fi (mj_nb a) fun z => sx_p0 h i k (.inl z) fun h => K y d rest L st cb sb fs h Y) (sx_ff Y fun z Y => sx_p0 h i k z fun h => K y d rest L st cb sb fs h Y)) (cond (Nat.beq (Nat.mod t 1000) 102 && sx_tf Y z) (sx_p0 h i k z fun h => K y d rest L st cb sb fs h Y) false)) false
    | .lastore => sx_l1 st fun z st => sx_ix Y st h fun i t k _ Y st => cond (Nat.beq (Nat.mod t 1000) 103 && Nat.blt t 900000) (sx_p1 h i k z fun h => K y d rest L st cb sb fs h Y) false
    | .aastore => sx_r1 st fun z st => sx_ix Y st h fun i t k _ Y st => cond (Nat.beq (Nat.mod t 1000) (100 + mj_hd x.2.2.1) && Nat.blt t 900000) (match z with
      | none => sx_p2 h i k none fun h => K y d rest L st cb sb fs h Y
      | some b => sx_cl h b fun tb _ _ _ _ => cond (Nat.beq (mj_hd x.2.2.1) 6 && Nat.beq (Nat.mod tb 1000) 7) (sx_p2 h i k (some b) fun h => K y d rest L st cb sb fs h Y) false) false
    | .tableswitch _ lo hi _ => sx_i1 st fun z st => sx_iv Y z fun a b => (cond (sx_le lo a) true (K y d ((sx_full y).drop (mj_hd x.2.2.1)) L st cb sb fs h (sx_rf1 .lt Y z a b lo lo)) && cond (sx_le b hi) true (K y d ((sx_full y).drop (mj_hd x.2.2.1)) L st cb sb fs h (sx_rf1 .gt Y z a b hi hi))) && sx_swt Y a b (fun t Y => K y d ((sx_full y).drop t) L st cb sb fs h Y) z lo (x.2.2.1.drop 1)
    | .arraylength => cond (Nat.beq y 900) (sx_sln y d rest L st cb sb fs h Y K) (sx_a1 st fun i st => sx_cl h i fun t n _ _ _ => cond (Nat.ble 100 (Nat.mod t 1000) && (Nat.blt (Nat.mod t 1000) 107 && Nat.ble n 4096)) (K y d rest L (.inl (.inl (.ofNat n)) :: st) cb sb fs h Y) false)
    | .newarray _ => sx_i1 st fun z st => sx_kn Y z fun z => cond (sx_le (.ofNat 0) z && (Nat.ble z.toNat 4096 && (Nat.ble 1 cb && (Nat.ble z.toNat sb && Nat.blt (mj_hd x.2.2.1) 4)))) (sx_nw h (1100 + mj_hd x.2.2.1) z.toNat fun i h => K y d rest L (.inr (.inr (some i)) :: st) (cb - 1) (sb - z.toNat) fs h Y) false
    | .anewarray _ => sx_i1 st fun z st => sx_kn Y z fun z => cond (sx_le (.ofNat 0) z && (Nat.ble z.toNat 4096 && (Nat.ble 1 cb && (Nat.ble z.toNat sb && Nat.blt (mj_hd x.2.2.1) 7)))) (sx_nw h (1100 + mj_hd x.2.2.1) z.toNat fun i h => K y d rest L (.inr (.inr (some i)) :: st) (cb - 1) (sb - z.toNat) fs h Y) false
    | .multianewarray _ _ => sx_i1 st fun z st => sx_i1 st fun v st => sx_kn Y z fun z => sx_kn Y v fun v => cond (sx_le (.ofNat 0) z && (sx_le (.ofNat 0) v && (Nat.ble z.toNat 1000 && (Nat.ble v.toNat 1000 && (Nat.ble (1 + v.toNat) cb && Nat.ble (v.toNat + v.toNat * z.toNat) sb))))) (sx_nw h 1104 v.toNat fun i h => sx_rws 1100 z.toNat v.toNat h fun h => sx_cl h i fun t n a b c => sx_rfs (i + 1) v.toNat c fun c => sx_pt h i (t, n, a, b, c) fun h => K y d rest L (.inr (.inr (some i)) :: st) (cb - (1 + v.toNat)) (sb - (v.toNat + v.toNat * z.toNat)) fs h Y) false
    | .new _ => cond (!x.2.2.1.isEmpty && (Nat.ble 1 cb && (Nat.ble (mj_h1 x.2.2.1) sb && Nat.blt (mj_hd x.2.2.1) 90))) (sx_nw h (1001 + mj_hd x.2.2.1) 0 fun i h => K y d rest L (.inr (.inr (some i)) :: st) (cb - 1) (sb - mj_h1 x.2.2.1) fs h Y) false
    | .invokevirtual _ => !x.2.2.1.isEmpty && sx_pop (mj_h1 x.2.2.1) [] st fun As st => sx_a1 st fun a st => sx_cl h a fun t _ _ _ _ => cond (Nat.beq (Nat.mod t 1000) (mj_h2 x.2.2.1 + 1)) (sx_call K y d rest L st cb sb fs h Y (mj_hd x.2.2.1) (.inr (.inr (some a)) :: As)) false
    | .invokestatic _ => match x.2.2.1 with
      | [] => cond (Nat.beq y 900) (sx_tl K y d rest L st cb sb fs h Y) false
      | [f, _] => sx_lib f Y st h fun st h => K y d rest L st cb sb fs h Y
      | _ => sx_pop (mj_h1 x.2.2.1) [] st fun As st => sx_call K y d rest L st cb sb fs h Y (mj_hd x.2.2.1) As
    | .invokespecial _ => match x.2.2.1 with
      | [] => sx_a1 st fun _ st => cond (Nat.ble (sx_cat st) 8) (K y d rest L st cb sb fs h Y) false
      | f :: _ => sx_pop (mj_h1 x.2.2.1) [] st fun As st => sx_a1 st fun a st => sx_cl h a fun t _ _ _ _ => cond (Nat.beq (Nat.mod t 1000) (mj_h2 x.2.2.1 + 1)) (sx_call K y d rest L st cb sb fs h Y f (.inr (.inr (some a)) :: As)) false
    | .ireturn => sx_i1 st fun z st => st.isEmpty && ((cond (sx_eq x.2.2.2 (.ofNat 1)) (sx_tf Y z) true) && sx_back K fs h Y (some (.inl z)))
    | .return_ => st.isEmpty && sx_back K fs h Y none
    | _ => false
noncomputable def sx_ex (n : Nat) : sx_K := Nat.rec (motive := fun _ => sx_K) (fun _ _ _ _ _ _ _ _ _ _ => false) (fun _ ih => sx_st ih) n
noncomputable def sx_exT (n : Nat) : sx_K := Nat.rec (motive := fun _ => sx_K) (fun _ _ _ _ _ _ _ _ _ _ => true) (fun _ ih => sx_st ih) n
end
section
/-! ===== what the symbolic run says, the small machine does ===== -/
abbrev sx_w : Type := Nat × (Nat → Int) × Nat × (Nat → Nat)
def sx_up (w w' : sx_w) : Prop := w.1 ≤ w'.1 ∧ (∀ i, i < w.1 → w'.2.1 i = w.2.1 i) ∧ w.2.2.1 ≤ w'.2.2.1 ∧ ∀ i, i < w.2.2.1 → w'.2.2.2 i = w.2.2.2 i
theorem sx_up.rf {w : sx_w} : sx_up w w := ⟨Nat.le_refl _, fun _ _ => rfl, Nat.le_refl _, fun _ _ => rfl⟩
def sx_e (w w' : sx_w) : Prop := sx_up w w' ∧ w'.2.2.1 = w.2.2.1
theorem sx_e.rf {w : sx_w} : sx_e w w := ⟨sx_up.rf, rfl⟩
def sx_RI (w : sx_w) (x : sx_I) (z : Int) : Prop := match x with
  | .inl y => y = z
  | .inr i => i < w.1 ∧ w.2.1 i = z
def sx_RO (w : sx_w) (x r : Option Nat) : Prop := match x with
  | none => r = none
  | some i => i < w.2.2.1 ∧ r = some (w.2.2.2 i)
def sx_RV (w : sx_w) (x : sx_V) (v : mj_V) : Prop := match x with
  | .inl x => ∃ z, v = .inl z ∧ sx_RI w x z
  | .inr (.inl x) => v = .inr (.inl x)
  | .inr (.inr x) => ∃ r, v = .inr (.inr r) ∧ sx_RO w x r
def sx_RS (w : sx_w) : List sx_V → List mj_V → Prop
  | [], t => t = []
  | x :: s, t => ∃ v t', t = v :: t' ∧ sx_RV w x v ∧ sx_RS w s t'
def sx_RL (w : sx_w) : sx_L → mj_L → Prop
  | [], L => L = []
  | none :: s, L => ∃ v L', L = v :: L' ∧ sx_RL w s L'
  | some x :: s, L => ∃ v L', L = some v :: L' ∧ sx_RV w x v ∧ sx_RL w s L'
def sx_RY (w : sx_w) (Y : sx_Y) : Prop := w.1 = Y.length ∧ ∀ i q, sx_ny Y i = some q → q.1 ≤ w.2.1 i ∧ w.2.1 i ≤ q.2
abbrev sx_ms : Nat → Nat × Nat := fun y => (mj_tab y).2.2.2.2.2.2
/-- the law's told on a fresh object -/
def sx_td (Z : mj_S) : Prop := ∀ (k pc : Nat) (im : Int) (rest : List mj_E) (L : mj_L) (st : List mj_V) (G : mj_G) (M : mj_M) (cb sb : Nat) (o : Option Nat) (p1 p0 : Int) (a b c t1 t2 t3 n1 n2 n3 : Nat), G a = (t1, n1) → t1 % 1000 = 11 → M.2.2 a 1 = some b → G b = (t2, n2) → t2 % 1000 = 7 → M.2.2 b 0 = some c → G c = (t3, n3) → t3 % 1000 = 4 → M.1 c 4 = 0 → mj_cat st ≤ 8 → 4 ≤ cb → 64 ≤ sb → Z rest L (.inl 1 :: st) G M (cb - 4) (sb - 64) → Z ((.invokestatic k, pc, [], im) :: rest) L (.inr (.inr o) :: .inl p1 :: .inl p0 :: .inr (.inr (some a)) :: st) G M cb sb
/-- the script: where it lies, its ints; at 6 its length -/
abbrev sx_q : Type := Nat × (Nat → Int)
def sx_tz (q : sx_q) (Z : mj_S) : Prop := sx_td Z ∧ (∀ (pc : Nat) (aux : List Nat) (im : Int) (rest : List mj_E) (L : mj_L) (st : List mj_V) (G : mj_G) (M : mj_M) (cb sb : Nat) (z : Int), 0 ≤ z → z < q.2 6 → Z rest L (.inl (q.2 z.toNat) :: st) G M cb sb → Z ((.iaload, pc, aux, im) :: rest) L (.inl z :: .inr (.inr (some q.1)) :: st) G M cb sb) ∧ ∀ (pc : Nat) (aux : List Nat) (im : Int) (rest : List mj_E) (L : mj_L) (st : List mj_V) (G : mj_G) (M : mj_M) (cb sb : Nat), Z rest L (.inl (q.2 6) :: st) G M cb sb → Z ((.arraylength, pc, aux, im) :: rest) L (.inr (.inr (some q.1)) :: st) G M cb sb
def sx_sc (q : sx_q) (w : sx_w) : Prop := 0 < w.2.2.1 ∧ w.2.2.2 0 = q.1 ∧ 8 ≤ w.1 ∧ (∀ k, k < 8 → w.2.1 k = q.2 k) ∧ q.2 7 = (Int32.ofInt (q.2 0) &&& Int32.ofInt 63).toInt
theorem sx_sc.up {q : sx_q} {w w' : sx_w} (u : sx_up w w') (h : sx_sc q w) : sx_sc q w' := ⟨Nat.lt_of_lt_of_le h.1 u.2.2.1, (u.2.2.2 0 h.1).trans h.2.1, Nat.le_trans h.2.2.1 u.1, fun k hk => (u.2.1 k (Nat.lt_of_lt_of_le hk h.2.2.1)).trans (h.2.2.2.1 k hk), h.2.2.2.2⟩
def sx_cz (q : sx_q) (fs : List sx_F) (y d : Nat) (Q : mj_P) (Z : mj_S) : Prop := (∀ rest L st G M cb sb, mj_x sx_ms (mj_R mj_tab d) (sx_full y) Q Z 1 rest L st G M cb sb → Z rest L st G M cb sb) ∧ (fs = [] → y = 900 → sx_tz q Z)
def sx_RF (q : sx_q) (w : sx_w) : List sx_F → mj_P → Prop
  | [], Q => (∀ G M, Q (some (.inl 1)) G M) ∧ sx_sc q w
  | (y, d, rest, L, st, cb, sb) :: fs, Q => ∃ (L' : mj_L) (st' : List mj_V) (Q' : mj_P) (Z : mj_S), sx_cz q fs y d Q' Z ∧ sx_RL w L L' ∧ sx_RS w st st' ∧ sx_RF q w fs Q' ∧ ∀ r G M, Z rest L' (mj_ret r st') G M cb sb → Q r G M
def sx_RC (w : sx_w) (G : mj_G) (M : mj_M) (i : Nat) (c : sx_c) : Prop := G (w.2.2.2 i) = (c.1, c.2.1) ∧ c.1 ≠ 0 ∧ ∀ k, k < 4096 → sx_RI w (sx_g c.2.2.1 k) (M.1 (w.2.2.2 i) k) ∧ M.2.1 (w.2.2.2 i) k = sx_g c.2.2.2.1 k ∧ sx_RO w (sx_g c.2.2.2.2 k) (M.2.2 (w.2.2.2 i) k)
def sx_RH (w : sx_w) (h : sx_H) (G : mj_G) (M : mj_M) : Prop := h.1 = w.2.2.1 ∧ h.1 ≤ 4096 ∧ (∀ i, i < h.1 → sx_RC w G M i (sx_g h.2 i)) ∧ ∀ i j, i < h.1 → j < h.1 → w.2.2.2 i = w.2.2.2 j → i = j
theorem sx_RI.up {w w' : sx_w} {x : sx_I} {z : Int} (u : sx_up w w') (h : sx_RI w x z) : sx_RI w' x z := by
  cases x with
  | inl y => exact h
  | inr i => exact ⟨Nat.lt_of_lt_of_le h.1 u.1, (u.2.1 i h.1).trans h.2⟩
theorem sx_RO.up {w w' : sx_w} {x r : Option Nat} (u : sx_up w w') (h : sx_RO w x r) : sx_RO w' x r := by
  cases x with
  | none => exact h
  | some i => exact ⟨Nat.lt_of_lt_of_le h.1 u.2.2.1, by rw [u.2.2.2 i h.1]; exact h.2⟩
theorem sx_RV.up {w w' : sx_w} {x : sx_V} {v : mj_V} (u : sx_up w w') (h : sx_RV w x v) : sx_RV w' x v := by
  rcases x with x | x | x
  · obtain ⟨z, h1, h2⟩ := h; exact ⟨z, h1, h2.up u⟩
  · exact h
  · obtain ⟨z, h1, h2⟩ := h; exact ⟨z, h1, h2.up u⟩
theorem sx_RS.up {w w' : sx_w} (u : sx_up w w') : ∀ {s : List sx_V} {t : List mj_V}, sx_RS w s t → sx_RS w' s t
  | [], _, h => h
  | _ :: _, _, h => by
    obtain ⟨v, t', h1, h2, h3⟩ := h
    exact ⟨v, t', h1, h2.up u, h3.up u⟩
theorem sx_RL.up {w w' : sx_w} (u : sx_up w w') : ∀ {s : sx_L} {t : mj_L}, sx_RL w s t → sx_RL w' s t
  | [], _, h => h
  | none :: _, _, h => by
    obtain ⟨v, t', h1, h3⟩ := h
    exact ⟨v, t', h1, h3.up u⟩
  | some _ :: _, _, h => by
    obtain ⟨v, t', h1, h2, h3⟩ := h
    exact ⟨v, t', h1, h2.up u, h3.up u⟩
theorem sx_RF.up {q : sx_q} {w w' : sx_w} (u : sx_up w w') : ∀ {fs : List sx_F} {Q : mj_P}, sx_RF q w fs Q → sx_RF q w' fs Q
  | [], _, h => ⟨h.1, h.2.up u⟩
  | (_, _, _, _, _, _, _) :: _, _, h => by
    obtain ⟨L', st', Q', Z, h1, h2, h3, h4, h5⟩ := h
    exact ⟨L', st', Q', Z, h1, h2.up u, h3.up u, h4.up u, h5⟩
theorem sx_RH.up {w w' : sx_w} {h : sx_H} {G : mj_G} {M : mj_M} (u : sx_e w w') (hh : sx_RH w h G M) : sx_RH w' h G M := by
  obtain ⟨h1, h2, h3, h4⟩ := hh
  have e : ∀ i, i < h.1 → w'.2.2.2 i = w.2.2.2 i := fun i hi => u.1.2.2.2 i (by omega)
  refine ⟨by rw [u.2]; exact h1, h2, fun i hi => ?_, fun i j hi hj q => h4 i j hi hj (by rw [← e i hi, ← e j hj]; exact q)⟩
  obtain ⟨c1, c2, c3⟩ := h3 i hi
  unfold sx_RC
  rw [e i hi]
  exact ⟨c1, c2, fun k hk => ⟨(c3 k hk).1.up u.1, (c3 k hk).2.1, (c3 k hk).2.2.up u.1⟩⟩
/-! numbers -/
theorem sx_le_iff {x y : Int} : sx_le x y = true ↔ x ≤ y := by
  cases x <;> cases y <;> simp only [sx_le]
  · rw [Nat.ble_eq]; simp only [Int.ofNat_eq_natCast]; omega
  · simp only [Int.ofNat_eq_natCast, Int.negSucc_eq, Bool.false_eq_true, false_iff]; omega
  · simp only [Int.ofNat_eq_natCast, Int.negSucc_eq, true_iff]; omega
  · rw [Nat.ble_eq]; simp only [Int.negSucc_eq]; omega
theorem sx_le_no {x y : Int} (h : sx_le x y ≠ true) : y < x := by
  have := mt sx_le_iff.mpr h; omega
theorem sx_eq_iff {x y : Int} : sx_eq x y = true ↔ x = y := by
  unfold sx_eq; rw [Bool.and_eq_true, sx_le_iff, sx_le_iff]; omega
theorem sx_in_of {lo hi z : Int} (h : sx_in lo hi = true) (h1 : lo ≤ z) (h2 : z ≤ hi) : mj_in z := by
  unfold sx_in at h
  rw [Bool.and_eq_true, sx_le_iff, sx_le_iff] at h
  obtain ⟨a, b⟩ := h
  have a' : (-2147483648 : Int) ≤ lo := a
  have b' : hi ≤ (2147483647 : Int) := b
  exact ⟨by omega, by omega⟩
theorem sx_fn_eq (n : Nat) (k : Nat → Bool) : sx_fn n k = k n := by cases n <;> rfl
theorem sx_fi_eq (z : Int) (k : Int → Bool) : sx_fi z k = k z := by cases z <;> simp only [sx_fi, sx_fn_eq]
theorem sx_cd {b x : Bool} (h : cond b x false = true) : b = true ∧ x = true := by cases b <;> simp_all
theorem sx_ct {b x : Bool} (h : cond b x true = true) (hb : b = true) : x = true := by subst hb; exact h
theorem sx_cf {b x : Bool} (h : cond b true x = true) (hb : b ≠ true) : x = true := by cases b <;> simp_all
theorem sx_nd {a b : Bool} (h : (a && b) = true) : a = true ∧ b = true := by rw [Bool.and_eq_true] at h; exact h
theorem sx_beq {a b : Nat} (h : Nat.beq a b = true) : a = b := Nat.eq_of_beq_eq_true h
theorem sx_blt {a b : Nat} (h : Nat.blt a b = true) : a < b := Nat.le_of_ble_eq_true h
theorem sx_ble {a b : Nat} (h : Nat.ble a b = true) : a ≤ b := Nat.le_of_ble_eq_true h
theorem sx_iv_s {Y : sx_Y} {x : sx_I} {k : Int → Int → Bool} {w : sx_w} {z : Int} (h : sx_iv Y x k = true) (hY : sx_RY w Y) (hx : sx_RI w x z) : ∃ lo hi, k lo hi = true ∧ lo ≤ z ∧ z ≤ hi := by
  cases x with
  | inl y => exact ⟨y, y, h, by rw [show y = z from hx]; exact Int.le_refl _, by rw [show y = z from hx]; exact Int.le_refl _⟩
  | inr i =>
    unfold sx_iv at h
    dsimp only at h
    cases hq : sx_ny Y i with
    | none => rw [hq] at h; cases h
    | some q =>
      rw [hq] at h
      have hb := hY.2 i q hq
      rw [hx.2] at hb
      exact ⟨q.1, q.2, h, hb⟩
theorem sx_kn_s {Y : sx_Y} {x : sx_I} {k : Int → Bool} {w : sx_w} {z : Int} (h : sx_kn Y x k = true) (hY : sx_RY w Y) (hx : sx_RI w x z) : k z = true := by
  obtain ⟨lo, hi, h1, h2, h3⟩ := sx_iv_s h hY hx
  obtain ⟨h4, h5⟩ := sx_cd h1
  have := sx_eq_iff.mp h4
  rw [show z = lo by omega]; exact h5
theorem sx_ny_app : ∀ (Y : sx_Y) (q : Int × Int) (i : Nat) (r : Int × Int), sx_ny (Y ++ [q]) i = some r → (i = Y.length ∧ r = q) ∨ sx_ny Y i = some r
  | [], q, 0, r, h => Or.inl ⟨rfl, (Option.some.inj h).symm⟩
  | [], q, i + 1, r, h => by cases h
  | x :: t, q, 0, r, h => Or.inr h
  | x :: t, q, i + 1, r, h => by
    rcases sx_ny_app t q i r h with ⟨h1, h2⟩ | h1
    · exact Or.inl ⟨by rw [h1]; rfl, h2⟩
    · exact Or.inr h1
theorem sx_ny_set : ∀ (Y : sx_Y) (j : Nat) (q : Int × Int) (i : Nat) (r : Int × Int), sx_ny (Y.set j q) i = some r → (i = j ∧ r = q) ∨ sx_ny Y i = some r
  | [], _, _, _, _, h => by cases h
  | x :: t, 0, q, 0, r, h => Or.inl ⟨rfl, (Option.some.inj h).symm⟩
  | x :: t, 0, q, i + 1, r, h => Or.inr h
  | x :: t, j + 1, q, 0, r, h => Or.inr h
  | x :: t, j + 1, q, i + 1, r, h => by
    rcases sx_ny_set t j q i r h with ⟨h1, h2⟩ | h1
    · exact Or.inl ⟨by rw [h1], h2⟩
    · exact Or.inr h1
theorem sx_RY.set {w : sx_w} {Y : sx_Y} (hY : sx_RY w Y) {i : Nat} {q : Int × Int} (h : q.1 ≤ w.2.1 i ∧ w.2.1 i ≤ q.2) : sx_RY w (Y.set i q) := by
  refine ⟨by rw [List.length_set]; exact hY.1, fun j r hr => ?_⟩
  rcases sx_ny_set Y i q j r hr with ⟨h1, h2⟩ | h1
  · rw [h1, h2]; exact h
  · exact hY.2 j r h1
theorem sx_fr_s {Y : sx_Y} {lo hi z : Int} {k : sx_I → sx_Y → Bool} {w : sx_w} (h : sx_fr Y lo hi k = true) (hY : sx_RY w Y) (h1 : lo ≤ z) (h2 : z ≤ hi) : ∃ w' x Y', sx_e w w' ∧ sx_RY w' Y' ∧ sx_RI w' x z ∧ k x Y' = true := by
  have hz : (if w.1 = w.1 then z else w.2.1 w.1) = z := if_pos rfl
  refine ⟨(w.1 + 1, fun i => if i = w.1 then z else w.2.1 i, w.2.2), .inr Y.length, Y ++ [(lo, hi)], ⟨⟨Nat.le_succ _, fun i hi => if_neg (Nat.ne_of_lt hi), Nat.le_refl _, fun _ _ => rfl⟩, rfl⟩, ⟨?_, fun i r hr => ?_⟩, ⟨?_, ?_⟩, h⟩
  · rw [List.length_append, ← hY.1]; rfl
  · rcases sx_ny_app Y _ i r hr with ⟨e1, e2⟩ | e1
    · rw [e1, e2, ← hY.1]
      show lo ≤ (if w.1 = w.1 then z else w.2.1 w.1) ∧ (if w.1 = w.1 then z else w.2.1 w.1) ≤ hi
      rw [hz]; exact ⟨h1, h2⟩
    · have hb := hY.2 i r e1
      by_cases hi : i = w.1
      · exfalso
        have : ∀ (Y : sx_Y) (i : Nat), Y.length ≤ i → sx_ny Y i = none := by
          intro Y
          induction Y with
          | nil => intro i _; rfl
          | cons x t ih =>
            intro i hi
            cases i with
            | zero => simp at hi
            | succ i => exact ih i (by simp at hi; omega)
        rw [this Y i (by rw [← hY.1]; omega)] at e1
        cases e1
      · show r.1 ≤ (if i = w.1 then z else w.2.1 i) ∧ (if i = w.1 then z else w.2.1 i) ≤ r.2
        rw [if_neg hi]; exact hb
  · show Y.length < w.1 + 1
    rw [hY.1]; exact Nat.lt_succ_self _
  · show (if Y.length = w.1 then z else w.2.1 Y.length) = z
    rw [if_pos hY.1.symm]
theorem sx_ff_s {Y : sx_Y} {z : Int} {k : sx_I → sx_Y → Bool} {w : sx_w} (h : sx_ff Y k = true) (hY : sx_RY w Y) (hz : mj_in z) : ∃ w' x Y', sx_e w w' ∧ sx_RY w' Y' ∧ sx_RI w' x z ∧ k x Y' = true :=
  sx_fr_s h hY hz.1 (show z ≤ (2147483647 : Int) from by have := hz.2; omega)
theorem sx_ai_s {Y : sx_Y} {lo hi z : Int} {k : sx_I → sx_Y → Bool} {no : Bool} {w : sx_w} (h : sx_ai Y lo hi k no = true) (hY : sx_RY w Y) (h1 : lo ≤ z) (h2 : z ≤ hi) : (mj_in z ∧ ∃ w' x Y', sx_e w w' ∧ sx_RY w' Y' ∧ sx_RI w' x z ∧ k x Y' = true) ∨ no = true := by
  unfold sx_ai at h
  rw [sx_fi_eq, sx_fi_eq] at h
  cases hin : sx_in lo hi with
  | false => rw [hin] at h; exact Or.inr h
  | true =>
    rw [hin] at h
    refine Or.inl ⟨sx_in_of hin h1 h2, ?_⟩
    cases he : sx_eq lo hi with
    | false => rw [he] at h; exact sx_fr_s h hY h1 h2
    | true =>
      rw [he] at h
      have := sx_eq_iff.mp he
      exact ⟨w, .inl lo, Y, sx_e.rf, hY, (by show lo = z; omega), h⟩
theorem sx_all_s {k : Int → Bool} {z : Int} : ∀ (n : Nat) (lo : Int), sx_all n lo k = true → lo ≤ z → z < lo + n → k z = true
  | 0, lo, _, h1, h2 => by omega
  | n + 1, lo, h, h1, h2 => by
    unfold sx_all at h
    rw [Bool.and_eq_true, sx_fi_eq] at h
    by_cases e : z = lo
    · rw [e]; exact h.1
    · exact sx_all_s n (lo + 1) h.2 (by omega) (by omega)
theorem sx_sp_s {Y : sx_Y} {x : sx_I} {k : Int → sx_Y → Bool} {w : sx_w} {z : Int} (h : sx_sp Y x k = true) (hY : sx_RY w Y) (hx : sx_RI w x z) : ∃ Y', sx_RY w Y' ∧ k z Y' = true := by
  cases x with
  | inl y => exact ⟨Y, hY, by rw [← (show y = z from hx)]; exact h⟩
  | inr i =>
    unfold sx_sp at h
    dsimp only at h
    cases hq : sx_ny Y i with
    | none => rw [hq] at h; cases h
    | some q =>
      rw [hq] at h
      have hb := hY.2 i q hq
      rw [hx.2] at hb
      obtain ⟨-, h2⟩ := sx_cd h
      exact ⟨Y.set i (z, z), hY.set ⟨by rw [hx.2]; exact Int.le_refl _, by rw [hx.2]; exact Int.le_refl _⟩, sx_all_s _ _ h2 hb.1 (by omega)⟩
/-! comparisons -/
theorem sx_may_s {c : ClassFile.Cond} {x y a b c' d : Int} (h : mj_cc c x y) (h1 : a ≤ x) (h2 : x ≤ b) (h3 : c' ≤ y) (h4 : y ≤ d) : sx_may c a b c' d = true := by
  cases c <;> simp only [mj_cc] at h <;> simp only [sx_may]
  · rw [Bool.and_eq_true, sx_le_iff, sx_le_iff]; omega
  · rw [Bool.not_eq_true', Bool.eq_false_iff]
    intro q
    rw [Bool.and_eq_true, Bool.and_eq_true, sx_eq_iff, sx_eq_iff, sx_eq_iff] at q
    omega
  · rw [Bool.not_eq_true', Bool.eq_false_iff]
    intro q; rw [sx_le_iff] at q; omega
  · rw [sx_le_iff]; omega
  · rw [Bool.not_eq_true', Bool.eq_false_iff]
    intro q; rw [sx_le_iff] at q; omega
  · rw [sx_le_iff]; omega
theorem sx_neg_s {c : ClassFile.Cond} {x y : Int} (h : ¬ mj_cc c x y) : mj_cc (sx_neg c) x y := by
  cases c <;> simp only [mj_cc, sx_neg] at h ⊢ <;> omega
theorem sx_swp_s {c : ClassFile.Cond} {x y : Int} (h : mj_cc c x y) : mj_cc (sx_swp c) y x := by
  cases c <;> simp only [mj_cc, sx_swp] at h ⊢ <;> omega
theorem sx_rfn_s {c : ClassFile.Cond} {lo hi z q : Int} (h : mj_cc c z q) (h1 : lo ≤ z) (h2 : z ≤ hi) : (sx_rfn c lo hi q).1 ≤ z ∧ z ≤ (sx_rfn c lo hi q).2 := by
  cases c <;> simp only [mj_cc] at h <;> simp only [sx_rfn]
  · omega
  · constructor
    · cases e : sx_eq lo q with
      | true => have := sx_eq_iff.mp e; simp only [cond_true]; omega
      | false => simp only [cond_false]; omega
    · cases e : sx_eq hi q with
      | true => have := sx_eq_iff.mp e; simp only [cond_true]; omega
      | false => simp only [cond_false]; omega
  · constructor
    · omega
    · cases e : sx_le q hi with
      | true => simp only [cond_true]; omega
      | false => simp only [cond_false]; omega
  · constructor
    · cases e : sx_le lo q with
      | true => simp only [cond_true]; omega
      | false => simp only [cond_false]; omega
    · omega
  · constructor
    · cases e : sx_le lo q with
      | true => simp only [cond_true]; omega
      | false => simp only [cond_false]; omega
    · omega
  · constructor
    · omega
    · cases e : sx_le q hi with
      | true => simp only [cond_true]; omega
      | false => simp only [cond_false]; omega
theorem sx_rf1_s {c : ClassFile.Cond} {Y : sx_Y} {x : sx_I} {lo hi c' d z q : Int} {w : sx_w} (hY : sx_RY w Y) (hx : sx_RI w x z) (h : mj_cc c z q) (h1 : lo ≤ z) (h2 : z ≤ hi) (h3 : c' ≤ q) (h4 : q ≤ d) : sx_RY w (sx_rf1 c Y x lo hi c' d) := by
  cases x with
  | inl y => exact hY
  | inr i =>
    unfold sx_rf1
    cases e : sx_eq c' d with
    | false => exact hY
    | true =>
      have := sx_eq_iff.mp e
      refine hY.set ?_
      rw [hx.2, show c' = q by omega]
      exact sx_rfn_s h h1 h2
theorem sx_br1_s {c : ClassFile.Cond} {Y : sx_Y} {x y : sx_I} {a b c' d zx zy : Int} {k : sx_Y → Bool} {w : sx_w} (h : sx_br1 c Y x y a b c' d k = true) (hY : sx_RY w Y) (hx : sx_RI w x zx) (hy : sx_RI w y zy) (hc : mj_cc c zx zy) (h1 : a ≤ zx) (h2 : zx ≤ b) (h3 : c' ≤ zy) (h4 : zy ≤ d) : ∃ Y', sx_RY w Y' ∧ k Y' = true := by
  have hk := sx_ct h (sx_may_s hc h1 h2 h3 h4)
  cases x with
  | inl u => exact ⟨_, sx_rf1_s hY hy (sx_swp_s hc) h3 h4 h1 h2, hk⟩
  | inr i => exact ⟨_, sx_rf1_s hY hx hc h1 h2 h3 h4, hk⟩
theorem sx_br_s {c : ClassFile.Cond} {Y : sx_Y} {x y : sx_I} {zx zy : Int} {k k' : sx_Y → Bool} {w : sx_w} {A B : Prop} (h : sx_br c Y x y k k' = true) (hY : sx_RY w Y) (hx : sx_RI w x zx) (hy : sx_RI w y zy) (kk : ∀ Y', sx_RY w Y' → k Y' = true → A) (kk' : ∀ Y', sx_RY w Y' → k' Y' = true → B) : mj_br (mj_cc c zx zy) A B := by
  obtain ⟨a, b, h, h1, h2⟩ := sx_iv_s h hY hx
  obtain ⟨c', d, h, h3, h4⟩ := sx_iv_s h hY hy
  obtain ⟨ha, hb⟩ := sx_nd h
  refine ⟨fun q => ?_, fun q => ?_⟩
  · obtain ⟨Y', u1, u2⟩ := sx_br1_s ha hY hx hy q h1 h2 h3 h4
    exact kk Y' u1 u2
  · obtain ⟨Y', u1, u2⟩ := sx_br1_s hb hY hx hy (sx_neg_s q) h1 h2 h3 h4
    exact kk' Y' u1 u2
end
section
/-! ===== the roles of cells: what ints and references may stand where, laid by a program ===== -/
def ab_ii : Int × Int := (.negSucc 2147483647, .ofNat 2147483647)
def ab_s (k : Nat) : Int × Int := cond (Nat.beq k 0) (.ofNat 0, .ofNat 8) (cond (Nat.beq k 222) (.ofNat 0, .ofNat 12) (cond (Nat.beq k 356) (.ofNat 0, .ofNat 45) (cond (Nat.ble 184 k && Nat.blt k 220) (cond (Nat.beq (Nat.mod (k - 184) 3) 0) (.ofNat 0, .ofNat 9) (cond (Nat.beq (Nat.mod (k - 184) 3) 1) (.ofNat 0, .ofNat 8) ab_ii)) (cond (Nat.ble 320 k && Nat.blt k 356) (cond (Nat.beq (Nat.mod (k - 320) 3) 0) (.ofNat 0, .ofNat 8) (cond (Nat.beq (Nat.mod (k - 320) 3) 1) (.negSucc 0, .ofNat 7) ab_ii)) ab_ii))))
def ab_per (t : Nat) : Bool := Nat.beq t 51100 || Nat.beq t 52100 || Nat.beq t 57100 || Nat.beq t 64100 || Nat.beq t 70100
def ab_rgp (t k : Nat) : Int × Int := cond (Nat.beq t 51100 || Nat.beq t 52100) (ab_s k) (cond (Nat.beq t 64100) (ab_s (221 + k)) (cond (Nat.beq t 70100) (cond (Nat.blt (Nat.mod k 538) 537) (ab_s (Nat.mod k 538)) ab_ii) (cond (Nat.beq (Nat.mod k 3) 0) (.ofNat 0, .ofNat 7) (cond (Nat.beq (Nat.mod k 3) 1) (.ofNat 0, .ofNat 11) ab_ii))))
def ab_rga (t : Nat) : Int × Int := (cond (Nat.blt t 40100) (cond (Nat.blt t 17100) (cond (Nat.blt t 14100) (cond (Nat.blt t 13100) (cond (Nat.beq t 2100) (.ofNat 0, .ofNat 8) ab_ii) (cond (Nat.beq t 13100) (.ofNat 0, .ofNat 2) ab_ii)) (cond (Nat.blt t 15100) (cond (Nat.beq t 14100) (.ofNat 0, .ofNat 3) ab_ii) (cond (Nat.blt t 16100) (cond (Nat.beq t 15100) (.ofNat 0, .ofNat 3) ab_ii) (cond (Nat.beq t 16100) (.negSucc 0, .ofNat 8) ab_ii)))) (cond (Nat.blt t 37102) (cond (Nat.blt t 21102) (cond (Nat.beq t 17100) (.negSucc 0, .ofNat 7) ab_ii) (cond (Nat.blt t 33100) (cond (Nat.beq t 21102) (.ofNat 0, .ofNat 1) ab_ii) (cond (Nat.beq t 33100) (.negSucc 0, .ofNat 7) ab_ii))) (cond (Nat.blt t 38101) (cond (Nat.beq t 37102) (.ofNat 0, .ofNat 1) ab_ii) (cond (Nat.blt t 39100) (cond (Nat.beq t 38101) (.negSucc 127, .ofNat 127) ab_ii) (cond (Nat.beq t 39100) (.ofNat 0, .ofNat 7) ab_ii))))) (cond (Nat.blt t 58100) (cond (Nat.blt t 48102) (cond (Nat.blt t 42100) (cond (Nat.beq t 40100) (.ofNat 0, .ofNat 11) ab_ii) (cond (Nat.blt t 43100) (cond (Nat.beq t 42100) (.ofNat 0, .ofNat 8) ab_ii) (cond (Nat.beq t 43100) (.negSucc 0, .ofNat 7) ab_ii))) (cond (Nat.blt t 49101) (cond (Nat.beq t 48102) (.ofNat 0, .ofNat 1) ab_ii) (cond (Nat.blt t 50101) (cond (Nat.beq t 49101) (.negSucc 127, .ofNat 127) ab_ii) (cond (Nat.beq t 50101) (.negSucc 127, .ofNat 127) ab_ii)))) (cond (Nat.blt t 67101) (cond (Nat.blt t 61100) (cond (Nat.beq t 58100) (.negSucc 0, .ofNat 9) ab_ii) (cond (Nat.blt t 62100) (cond (Nat.beq t 61100) (.ofNat 0, .ofNat 8) ab_ii) (cond (Nat.beq t 62100) (.negSucc 0, .ofNat 11) ab_ii))) (cond (Nat.blt t 69102) (cond (Nat.beq t 67101) (.negSucc 127, .ofNat 127) ab_ii) (cond (Nat.blt t 72102) (cond (Nat.beq t 69102) (.ofNat 0, .ofNat 1) ab_ii) (cond (Nat.beq t 72102) (.ofNat 0, .ofNat 1) ab_ii))))))
def ab_rgo (t k : Nat) : Int × Int := (cond (Nat.blt t 1008) (cond (Nat.blt t 1004) (cond (Nat.blt t 1003) (cond (Nat.beq t 1001) (cond (Nat.beq k 1) (.ofNat 0, .ofNat 1) (cond (Nat.beq k 5) (.ofNat 0, .ofNat 3) ab_ii)) ab_ii) (cond (Nat.beq t 1003) (cond (Nat.beq k 1) (.ofNat 0, .ofNat 40) (cond (Nat.beq k 5) (.negSucc 0, .ofNat 11) ab_ii)) ab_ii)) (cond (Nat.blt t 1005) (cond (Nat.beq t 1004) (cond (Nat.beq k 4) (.ofNat 0, .ofNat 8) (cond (Nat.beq k 12) (.ofNat 0, .ofNat 1) (cond (Nat.beq k 13) (.ofNat 0, .ofNat 1) (cond (Nat.beq k 14) (.ofNat 0, .ofNat 1) ab_ii)))) ab_ii) (cond (Nat.blt t 1006) (cond (Nat.beq t 1005) (cond (Nat.beq k 0) (.ofNat 0, .ofNat 1) ab_ii) ab_ii) (cond (Nat.beq t 1006) (cond (Nat.beq k 4) (.ofNat 0, .ofNat 40) ab_ii) ab_ii)))) (cond (Nat.blt t 1010) (cond (Nat.blt t 1009) (cond (Nat.beq t 1008) (cond (Nat.beq k 1) (.ofNat 0, .ofNat 940) (cond (Nat.beq k 10) (.ofNat 0, .ofNat 940) (cond (Nat.beq k 11) (.ofNat 0, .ofNat 940) ab_ii))) ab_ii) (cond (Nat.beq t 1009) (cond (Nat.beq k 3) (.ofNat 0, .ofNat 8) ab_ii) ab_ii)) (cond (Nat.blt t 1011) (cond (Nat.beq t 1010) (cond (Nat.beq k 0) (.ofNat 0, .ofNat 1) (cond (Nat.beq k 1) (.ofNat 0, .ofNat 12) ab_ii)) ab_ii) (cond (Nat.blt t 1012) (cond (Nat.beq t 1011) (cond (Nat.beq k 11) (.ofNat 0, .ofNat 300) ab_ii) ab_ii) (cond (Nat.beq t 1012) (cond (Nat.beq k 2) (.ofNat 0, .ofNat 940) (cond (Nat.beq k 3) (.ofNat 0, .ofNat 940) (cond (Nat.beq k 4) (.ofNat 0, .ofNat 940) (cond (Nat.beq k 14) (.ofNat 0, .ofNat 8214) (cond (Nat.beq k 24) (.ofNat 0, .ofNat 7) (cond (Nat.beq k 28) (.ofNat 0, .ofNat 8) (cond (Nat.beq k 29) (.ofNat 0, .ofNat 8) (cond (Nat.beq k 30) (.negSucc 0, .ofNat 7) (cond (Nat.beq k 39) (.ofNat 0, .ofNat 1) (cond (Nat.beq k 43) (.ofNat 0, .ofNat 8) (cond (Nat.beq k 44) (.ofNat 0, .ofNat 1) (cond (Nat.beq k 49) (.ofNat 0, .ofNat 40) (cond (Nat.beq k 51) (.ofNat 0, .ofNat 300) (cond (Nat.beq k 57) (.ofNat 0, .ofNat 1) ab_ii)))))))))))))) ab_ii)))))
def ab_rg (t k : Nat) : Int × Int := cond (ab_per t) (ab_rgp t k) (cond (Nat.ble 100 (Nat.mod t 1000)) (ab_rga t) (ab_rgo t k))
def ab_rfa (t : Nat) : Option (Nat × Nat) := (cond (Nat.blt t 25104) (cond (Nat.blt t 10104) (cond (Nat.blt t 7104) (cond (Nat.beq t 5104) (some (6100, 12)) none) (cond (Nat.beq t 7104) (some (8100, 13)) none)) (cond (Nat.blt t 19104) (cond (Nat.beq t 10104) (some (11100, 81)) none) (cond (Nat.blt t 22104) (cond (Nat.beq t 19104) (some (20100, 3)) none) (cond (Nat.beq t 22104) (some (23100, 8)) none)))) (cond (Nat.blt t 45104) (cond (Nat.blt t 27104) (cond (Nat.beq t 25104) (some (26100, 9)) none) (cond (Nat.blt t 34105) (cond (Nat.beq t 27104) (some (28100, 12)) none) (cond (Nat.beq t 34105) (some (0, 0)) none))) (cond (Nat.blt t 47106) (cond (Nat.beq t 45104) (some (46100, 11)) none) (cond (Nat.blt t 900105) (cond (Nat.beq t 47106) (some (1007, 0)) none) (cond (Nat.beq t 900105) (some (50, 0)) none)))))
def ab_rfo (t k : Nat) : Option (Nat × Nat) := (cond (Nat.blt t 1007) (cond (Nat.blt t 1004) (cond (Nat.blt t 1002) (cond (Nat.beq t 1001) (cond (Nat.beq k 0) (some (2100, 12)) (cond (Nat.beq k 7) (some (3100, 3)) (cond (Nat.beq k 8) (some (4100, 3)) (cond (Nat.beq k 9) (some (5104, 3)) (cond (Nat.beq k 10) (some (7104, 3)) (cond (Nat.beq k 11) (some (9100, 13)) (cond (Nat.beq k 12) (some (10104, 3)) (cond (Nat.beq k 13) (some (12100, 81)) (cond (Nat.beq k 14) (some (13100, 81)) (cond (Nat.beq k 16) (some (14100, 12)) (cond (Nat.beq k 17) (some (15100, 12)) none))))))))))) none) (cond (Nat.blt t 1003) (cond (Nat.beq t 1002) (cond (Nat.beq k 0) (some (16100, 12)) (cond (Nat.beq k 1) (some (17100, 12)) (cond (Nat.beq k 2) (some (18100, 12)) none))) none) (cond (Nat.beq t 1003) (cond (Nat.beq k 0) (some (19104, 40)) (cond (Nat.beq k 3) (some (21102, 12)) (cond (Nat.beq k 4) (some (22104, 12)) (cond (Nat.beq k 6) (some (1010, 0)) (cond (Nat.beq k 7) (some (1010, 0)) none))))) none))) (cond (Nat.blt t 1005) (cond (Nat.beq t 1004) (cond (Nat.beq k 0) (some (24103, 8)) (cond (Nat.beq k 1) (some (25104, 8)) (cond (Nat.beq k 2) (some (27104, 8)) (cond (Nat.beq k 3) (some (29100, 12)) (cond (Nat.beq k 10) (some (30100, 8)) none))))) none) (cond (Nat.blt t 1006) (cond (Nat.beq t 1005) (cond (Nat.beq k 1) (some (31100, 8)) (cond (Nat.beq k 2) (some (32100, 12)) (cond (Nat.beq k 3) (some (33100, 12)) none))) none) (cond (Nat.beq t 1006) (cond (Nat.beq k 0) (some (34105, 40)) (cond (Nat.beq k 1) (some (35100, 40)) (cond (Nat.beq k 2) (some (36100, 40)) (cond (Nat.beq k 3) (some (37102, 40)) none)))) none)))) (cond (Nat.blt t 1010) (cond (Nat.blt t 1008) (cond (Nat.beq t 1007) (cond (Nat.beq k 0) (some (1004, 0)) (cond (Nat.beq k 1) (some (1002, 0)) (cond (Nat.beq k 2) (some (1006, 0)) (cond (Nat.beq k 3) (some (1010, 0)) none)))) none) (cond (Nat.blt t 1009) (cond (Nat.beq t 1008) (cond (Nat.beq k 0) (some (38101, 940)) (cond (Nat.beq k 9) (some (0, 0)) none)) none) (cond (Nat.beq t 1009) (cond (Nat.beq k 0) (some (39100, 8)) (cond (Nat.beq k 1) (some (40100, 8)) (cond (Nat.beq k 2) (some (41100, 8)) none))) none))) (cond (Nat.blt t 1011) (cond (Nat.beq t 1010) (cond (Nat.beq k 3) (some (42100, 12)) (cond (Nat.beq k 4) (some (43100, 12)) (cond (Nat.beq k 5) (some (44100, 12)) (cond (Nat.beq k 6) (some (45104, 8)) none)))) none) (cond (Nat.blt t 1012) (cond (Nat.beq t 1011) (cond (Nat.beq k 0) (some (1008, 0)) (cond (Nat.beq k 1) (some (1007, 0)) (cond (Nat.beq k 2) (some (1007, 0)) (cond (Nat.beq k 3) (some (47106, 2)) (cond (Nat.beq k 4) (some (48102, 2)) (cond (Nat.beq k 5) (some (1009, 0)) (cond (Nat.beq k 6) (some (1001, 0)) (cond (Nat.beq k 7) (some (1005, 0)) (cond (Nat.beq k 8) (some (1003, 0)) (cond (Nat.beq k 9) (some (1010, 0)) (cond (Nat.beq k 10) (some (49101, 300)) none))))))))))) none) (cond (Nat.beq t 1012) (cond (Nat.beq k 1) (some (50101, 940)) (cond (Nat.beq k 6) (some (51100, 537)) (cond (Nat.beq k 7) (some (52100, 221)) (cond (Nat.beq k 8) (some (53100, 135)) (cond (Nat.beq k 9) (some (54103, 16)) (cond (Nat.beq k 10) (some (55103, 24)) (cond (Nat.beq k 23) (some (56100, 4)) (cond (Nat.beq k 27) (some (57100, 24)) (cond (Nat.beq k 35) (some (58100, 13)) (cond (Nat.beq k 36) (some (59100, 13)) (cond (Nat.beq k 37) (some (60100, 39)) (cond (Nat.beq k 38) (some (61100, 12)) (cond (Nat.beq k 41) (some (62100, 8)) (cond (Nat.beq k 42) (some (63100, 12)) (cond (Nat.beq k 45) (some (64100, 135)) (cond (Nat.beq k 46) (some (65100, 12)) (cond (Nat.beq k 48) (some (66100, 120)) (cond (Nat.beq k 50) (some (67101, 400)) (cond (Nat.beq k 52) (some (68100, 45)) (cond (Nat.beq k 58) (some (69102, 45)) (cond (Nat.beq k 59) (some (70100, 1076)) (cond (Nat.beq k 60) (some (71103, 16)) (cond (Nat.beq k 61) (some (72102, 2)) none))))))))))))))))))))))) none)))))
def ab_rf (t k : Nat) : Option (Nat × Nat) := cond (Nat.ble 100 (Nat.mod t 1000)) (ab_rfa t) (ab_rfo t k)
def ab_rdt : Nat := 53100
end
section
/-! ===== an abstract run of the small machine, by a program: ints by signs with bounds, cells by what is remembered of them ===== -/
abbrev ab_I : Type := Int ⊕ (Nat × Nat × Int)
abbrev ab_V : Type := ab_I ⊕ (Unit ⊕ Nat)
abbrev ab_L : Type := List (Option ab_V)
abbrev ab_S : Type := Int × Int × List (Nat × Int)
abbrev ab_Y : Type := List ab_S
abbrev ab_R : Type := List (Nat × Nat)
abbrev ab_m : Type := List (Nat × ab_I × ab_V)
abbrev ab_E : Type := List (ab_I × Int × ab_I)
/-- method, depth, place, rest, locals, stack -/
abbrev ab_F : Type := Nat × Nat × Nat × List mj_E × ab_L × List ab_V
abbrev ab_K : Type := Nat → Nat → Nat → List mj_E → ab_L → List ab_V → List ab_F → ab_Y → ab_R → ab_m → ab_E → Bool
/-- a number told: known; a rigid sign and more; bounds, and a rigid sign that it isn't below -/
abbrev ab_X : Type := Int ⊕ ((Nat × Int) ⊕ (Int × Int × Option (Nat × Int)))
/-- what comes back: nothing; a number, a long, a reference; and what cells hold then -/
abbrev ab_po : Type := Option (ab_X ⊕ (Unit ⊕ (Nat × Nat))) × List (Nat × Nat × ab_X)
/-- a pattern: signs, references, what cells hold, values -/
abbrev ab_pt : Type := ab_Y × ab_R × List (Nat × Nat × ab_V) × ab_L
/-- a cut: its place, its pattern, its measure -/
abbrev ab_cu : Type := Nat × ab_pt × List (ab_I × Nat)
/-- a contract: method, height, entry, what may be written, what comes back, cuts, splits -/
abbrev ab_co : Type := Nat × Nat × ab_pt × List (Nat × Nat × Nat) × List ab_po × List ab_cu × List (Nat × Nat)
def ab_y (c : ab_co) : Nat := c.1
def ab_h (c : ab_co) : Nat := c.2.1
def ab_p (c : ab_co) : ab_pt := c.2.2.1
def ab_w (c : ab_co) : List (Nat × Nat × Nat) := c.2.2.2.1
def ab_o (c : ab_co) : List ab_po := c.2.2.2.2.1
def ab_c (c : ab_co) : List ab_cu := c.2.2.2.2.2.1
def ab_sl (c : ab_co) : List (Nat × Nat) := c.2.2.2.2.2.2
def ab_full (y : Nat) : List mj_E := (mj_tab y).2.2.2.2.1
/-! numbers -/
def ab_ny : ab_Y → Nat → Option ab_S
  | [], _ => none
  | x :: _, 0 => some x
  | _ :: t, n + 1 => ab_ny t n
def ab_nR : ab_R → Nat → Option (Nat × Nat)
  | [], _ => none
  | x :: _, 0 => some x
  | _ :: t, n + 1 => ab_nR t n
def ab_lo : Int := .negSucc 2147483647
def ab_hi : Int := .ofNat 2147483647
def ab_mn (x y : Int) : Int := cond (sx_le x y) x y
def ab_mx (x y : Int) : Int := cond (sx_le x y) y x
def ab_iv (Y : ab_Y) (x : ab_I) (k : Int → Int → Bool) : Bool := match x with
  | .inl z => k z z
  | .inr (i, a, b) => match ab_ny Y i with
    | some q => sx_fi (Int.ofNat a * q.1 + b) fun l => sx_fi (Int.ofNat a * q.2.1 + b) fun h => k l h
    | none => false
def ab_nr (Y : ab_Y) (x : ab_I) : ab_I := match x with
  | .inl z => .inl z
  | .inr (i, a, b) => match ab_ny Y i with
    | some q => cond (sx_eq q.1 q.2.1) (.inl (Int.ofNat a * q.1 + b)) (.inr (i, a, b))
    | none => .inr (i, a, b)
def ab_ie (x y : ab_I) : Bool := match x, y with
  | .inl a, .inl b => sx_eq a b
  | .inr (i, a, b), .inr (j, c, d) => Nat.beq i j && (Nat.beq a c && sx_eq b d)
  | _, _ => false
/-- the same number -/
def ab_sm (Y : ab_Y) (x y : ab_I) : Bool := ab_ie (ab_nr Y x) (ab_nr Y y)
def ab_mo (a : Option Int) (b : Int) : Option Int := match a with
  | none => some b
  | some x => some (ab_mx x b)
/-- sign i is at least sign j and this -/
def ab_lb (Y : ab_Y) : Nat → Nat → Nat → Option Int
  | 0, _, _ => none
  | n + 1, i, j => cond (Nat.beq i j) (some (.ofNat 0)) (match ab_ny Y i with
    | none => none
    | some q => q.2.2.foldl (fun acc r => match ab_lb Y n r.1 j with
      | none => acc
      | some z => ab_mo acc (z + r.2)) none)
/-- x is at least y and this -/
def ab_df (Y : ab_Y) (x y : ab_I) : Option Int := match x, y with
  | .inl a, .inl b => some (a - b)
  | .inl a, .inr (j, c, d) => match ab_ny Y j with
    | none => none
    | some q => some (a - (Int.ofNat c * q.2.1 + d))
  | .inr (i, a, b), .inl d => match ab_ny Y i with
    | none => none
    | some q => some (Int.ofNat a * q.1 + b - d)
  | .inr (i, a, b), .inr (j, c, d) => cond (Nat.beq i j && Nat.beq a c) (some (b - d)) (match ab_ny Y i with
    | none => none
    | some p => match ab_ny Y j with
      | none => none
      | some q => match (cond (Nat.beq a 1 && Nat.beq c 1) (ab_lb Y 12 i j) none) with
        | none => some (Int.ofNat a * p.1 + b - (Int.ofNat c * q.2.1 + d))
        | some z => some (ab_mx (z + b - d) (Int.ofNat a * p.1 + b - (Int.ofNat c * q.2.1 + d))))
def ab_ge (Y : ab_Y) (x y : ab_I) (d : Int) : Bool := match ab_df Y x y with
  | none => false
  | some z => sx_le d z
/-- an upper bound out of what isn't below -/
def ab_hb (Y : ab_Y) (j : Nat) : ab_Y → Int → Int
  | [], acc => acc
  | q :: t, acc => ab_hb Y j t (q.2.2.foldl (fun acc r => cond (Nat.beq r.1 j) (ab_mn acc (q.2.1 - r.2)) acc) acc)
/-- at most hi -/
def ab_le (Y : ab_Y) (x : ab_I) (hi : Int) : Bool := match x with
  | .inl z => sx_le z hi
  | .inr (i, a, b) => match ab_ny Y i with
    | none => false
    | some q => sx_le (Int.ofNat a * q.2.1 + b) hi || (Nat.beq a 1 && sx_le (ab_hb Y i Y q.2.1 + b) hi)
/-! new signs -/
def ab_fr (Y : ab_Y) (lo hi : Int) (rel : List (Nat × Int)) (k : ab_I → ab_Y → Bool) : Bool := sx_fi lo fun lo => sx_fi hi fun hi => cond (sx_eq lo hi) (k (.inl lo) Y) (k (.inr (Y.length, 1, .ofNat 0)) (Y ++ [(lo, hi, rel)]))
def ab_ff (Y : ab_Y) (k : ab_I → ab_Y → Bool) : Bool := ab_fr Y ab_lo ab_hi [] k
def ab_c1 (i a : Nat) (b : Int) (k : ab_I → Bool) : Bool := sx_fi b fun b => sx_fn a fun a => k (.inr (i, a, b))
def ab_rel1 (x : ab_I) (d : Int) : List (Nat × Int) := match x with
  | .inr (i, 1, b) => [(i, b + d)]
  | _ => []
def ab_add (Y : ab_Y) (x y : ab_I) (k : ab_I → ab_Y → Bool) : Bool := ab_iv Y x fun a b => ab_iv Y y fun c d => cond (sx_in (a + c) (b + d)) (match x, y with
  | .inl p, .inl q => sx_fi (p + q) fun z => k (.inl z) Y
  | .inl p, .inr (i, f, q) => ab_c1 i f (p + q) fun v => k v Y
  | .inr (i, f, p), .inl q => ab_c1 i f (p + q) fun v => k v Y
  | .inr (i, f, p), .inr (j, g, q) => cond (Nat.beq i j) (ab_c1 i (f + g) (p + q) fun v => k v Y) (ab_fr Y (a + c) (b + d) (cond (Nat.beq f 1) (ab_rel1 (.inr (i, f, p)) c) (ab_rel1 (.inr (j, g, q)) a)) k)) (ab_ff Y k)
def ab_sub (Y : ab_Y) (x y : ab_I) (k : ab_I → ab_Y → Bool) : Bool := ab_iv Y x fun a b => ab_iv Y y fun c d => cond (sx_in (a - d) (b - c)) (match x, y with
  | .inl p, .inl q => sx_fi (p - q) fun z => k (.inl z) Y
  | .inr (i, f, p), .inl q => ab_c1 i f (p - q) fun v => k v Y
  | .inr (i, f, p), .inr (j, g, q) => cond (Nat.beq i j && Nat.ble g f) (cond (Nat.beq f g) (sx_fi (p - q) fun z => k (.inl z) Y) (ab_c1 i (f - g) (p - q) fun v => k v Y)) (ab_fr Y (a - d) (b - c) (ab_rel1 (.inr (i, f, p)) (-d)) k)
  | .inl _, .inr _ => ab_fr Y (a - d) (b - c) [] k) (ab_ff Y k)
def ab_mul (Y : ab_Y) (x y : ab_I) (k : ab_I → ab_Y → Bool) : Bool := ab_iv Y x fun a b => ab_iv Y y fun c d => sx_fi (ab_mn (ab_mn (a * c) (a * d)) (ab_mn (b * c) (b * d))) fun lo => sx_fi (ab_mx (ab_mx (a * c) (a * d)) (ab_mx (b * c) (b * d))) fun hi => cond (sx_in lo hi) (match x, y with
  | .inl p, .inl q => sx_fi (p * q) fun z => k (.inl z) Y
  | .inl (.ofNat p), .inr (i, f, q) => cond (Nat.ble 1 p) (ab_c1 i (f * p) (Int.ofNat p * q) fun v => k v Y) (ab_fr Y lo hi [] k)
  | .inr (i, f, p), .inl (.ofNat q) => cond (Nat.ble 1 q) (ab_c1 i (f * q) (Int.ofNat q * p) fun v => k v Y) (ab_fr Y lo hi [] k)
  | _, _ => ab_fr Y lo hi [] k) (ab_ff Y k)
/-! comparisons -/
def ab_may (c : ClassFile.Cond) (Y : ab_Y) (x y : ab_I) : Bool := match c with
  | .eq => !(ab_ge Y x y (.ofNat 1) || ab_ge Y y x (.ofNat 1))
  | .ne => !(ab_sm Y x y)
  | .lt => !(ab_ge Y x y (.ofNat 0))
  | .ge => !(ab_ge Y y x (.ofNat 1))
  | .gt => !(ab_ge Y y x (.ofNat 0))
  | .le => !(ab_ge Y x y (.ofNat 1))
/-- the bounds of a sign (with more: b) that is held against something from c to d -/
def ab_rfn (cd : ClassFile.Cond) (lo hi b c d : Int) (k : Int → Int → Bool) : Bool := match cd with
  | .eq => sx_fi (ab_mx lo (c - b)) fun l => sx_fi (ab_mn hi (d - b)) fun h => k l h
  | .ne => cond (sx_eq c d) (sx_fi (cond (sx_eq lo (c - b)) (lo + 1) lo) fun l => sx_fi (cond (sx_eq hi (c - b)) (hi - 1) hi) fun h => k l h) (k lo hi)
  | .lt => sx_fi (ab_mn hi (d - 1 - b)) fun h => k lo h
  | .le => sx_fi (ab_mn hi (d - b)) fun h => k lo h
  | .gt => sx_fi (ab_mx lo (c + 1 - b)) fun l => k l hi
  | .ge => sx_fi (ab_mx lo (c - b)) fun l => k l hi
def ab_rf1 (cd : ClassFile.Cond) (Y : ab_Y) (x : ab_I) (c d : Int) (k : ab_Y → Bool) : Bool := match x with
  | .inl _ => k Y
  | .inr (i, a, b) => cond (Nat.beq a 1) (match ab_ny Y i with
    | none => k Y
    | some q => ab_rfn cd q.1 q.2.1 b c d fun l h => cond (sx_le l h) (k (Y.set i (l, h, q.2.2))) true) (k Y)
/-- sign j is at least sign i and d -/
def ab_sr (Y : ab_Y) (i j : Nat) (d : Int) (k : ab_Y → Bool) : Bool := cond (Nat.beq i j) (k Y) (match ab_lb Y 12 j i with
  | some z => cond (sx_le d z) (k Y) (ab_sr2 Y i j d k)
  | none => ab_sr2 Y i j d k)
where ab_sr2 (Y : ab_Y) (i j : Nat) (d : Int) (k : ab_Y → Bool) : Bool := match ab_ny Y j with
  | none => k Y
  | some q => sx_fi d fun d => k (Y.set j (q.1, q.2.1, (i, d) :: q.2.2.filter (fun r => !Nat.beq r.1 i)))
def ab_st2 (cd : ClassFile.Cond) (Y : ab_Y) (x y : ab_I) (k : ab_Y → Bool) : Bool := match x, y with
  | .inr (i, 1, b), .inr (j, 1, d) => match cd with
    | .lt => ab_sr Y i j (b - d + 1) k
    | .le => ab_sr Y i j (b - d) k
    | .gt => ab_sr Y j i (d - b + 1) k
    | .ge => ab_sr Y j i (d - b) k
    | _ => k Y
  | _, _ => k Y
def ab_br1 (cd : ClassFile.Cond) (Y : ab_Y) (x y : ab_I) (a b c d : Int) (k : ab_Y → Bool) : Bool := cond (ab_may cd Y x y) (ab_rf1 cd Y x c d fun Y => ab_rf1 (sx_swp cd) Y y a b fun Y => ab_st2 cd Y x y k) true
def ab_br (cd : ClassFile.Cond) (Y : ab_Y) (x y : ab_I) (k k' : ab_Y → Bool) : Bool := ab_iv Y x fun a b => ab_iv Y y fun c d => ab_br1 cd Y x y a b c d k && ab_br1 (sx_neg cd) Y x y a b c d k'
/-- each value that it may be, n from lo on -/
def ab_all (n : Nat) (lo : Int) (k : Int → Bool) : Bool := match n with
  | 0 => true
  | n + 1 => sx_fi lo k && ab_all n (lo + 1) k
def ab_spl (Y : ab_Y) (x : ab_I) (k : Int → ab_Y → Bool) : Bool := match x with
  | .inl z => k z Y
  | .inr (i, a, b) => match ab_ny Y i with
    | none => false
    | some q => cond (sx_le (q.2.1 - q.1) (.ofNat 60)) (ab_all (q.2.1 + 1 - q.1).toNat q.1 fun z => sx_fi (Int.ofNat a * z + b) fun v => k v (Y.set i (z, z, q.2.2))) false
end
