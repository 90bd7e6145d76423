/-! ===== a symbolic run of the small machine, by a program: ints known or by a sign with bounds, cells by numbers ===== -/
abbrev sx_I : Type := Int ⊕ Nat
abbrev sx_V : Type := sx_I ⊕ (Int64 ⊕ Option Nat)
abbrev sx_L : Type := List (Option sx_V)
abbrev sx_c : Type := Nat × Nat × Lean.RArray sx_I × Lean.RArray Int64 × Lean.RArray (Option Nat)
abbrev sx_H : Type := Nat × Lean.RArray sx_c
abbrev sx_Y : Type := List (Int × Int)
abbrev sx_F : Type := Nat × Nat × List mj_E × sx_L × List sx_V × Nat × Nat
abbrev sx_K : Type := Nat → Nat → List mj_E → sx_L → List sx_V → Nat → Nat → List sx_F → sx_H → sx_Y → Bool
/-! a tree by the bits of a number, the lowest first -/
noncomputable def sx_g {β : Type} (t : Lean.RArray β) : Nat → β := Lean.RArray.rec (motive := fun _ => Nat → β) (fun a _ => a) (fun _ _ _ l r k => cond (Nat.beq (Nat.mod k 2) 0) (l (Nat.div k 2)) (r (Nat.div k 2))) t
def sx_s {β : Type} : Nat → Lean.RArray β → Nat → β → Lean.RArray β
  | 0, _, _, v => .leaf v
  | d + 1, .leaf a, k, v => cond (Nat.beq (Nat.mod k 2) 0) (.branch 0 (sx_s d (.leaf a) (Nat.div k 2) v) (.leaf a)) (.branch 0 (.leaf a) (sx_s d (.leaf a) (Nat.div k 2) v))
  | d + 1, .branch p l r, k, v => cond (Nat.beq (Nat.mod k 2) 0) (.branch p (sx_s d l (Nat.div k 2) v) r) (.branch p l (sx_s d r (Nat.div k 2) v))
noncomputable def sx_sk {β : Type} (d : Nat) : Lean.RArray β → Nat → β → (Lean.RArray β → Bool) → Bool := Nat.rec (motive := fun _ => Lean.RArray β → Nat → β → (Lean.RArray β → Bool) → Bool) (fun _ _ v K => K (.leaf v))
  (fun _ ih t k v K => Lean.RArray.casesOn (motive := fun _ => Bool) t
    (fun a => cond (Nat.beq (Nat.mod k 2) 0) (ih (.leaf a) (Nat.div k 2) v fun l => K (.branch 0 l (.leaf a))) (ih (.leaf a) (Nat.div k 2) v fun r => K (.branch 0 (.leaf a) r)))
    (fun p l r => cond (Nat.beq (Nat.mod k 2) 0) (ih l (Nat.div k 2) v fun l' => K (.branch p l' r)) (ih r (Nat.div k 2) v fun r' => K (.branch p l r')))) d
/-! numbers -/
def sx_le (x y : Int) : Bool := match x, y with
  | .ofNat a, .ofNat b => Nat.ble a b
  | .negSucc _, .ofNat _ => true
  | .ofNat _, .negSucc _ => false
  | .negSucc a, .negSucc b => Nat.ble b a
def sx_eq (x y : Int) : Bool := sx_le x y && sx_le y x
def sx_in (lo hi : Int) : Bool := sx_le (.negSucc 2147483647) lo && sx_le hi (.ofNat 2147483647)
def sx_fn (n : Nat) (k : Nat → Bool) : Bool := match n with
  | 0 => k 0
  | m + 1 => k (Nat.succ m)
def sx_fi (z : Int) (k : Int → Bool) : Bool := match z with
  | .ofNat n => sx_fn n fun n => k (.ofNat n)
  | .negSucc n => sx_fn n fun n => k (.negSucc n)
def sx_ny : sx_Y → Nat → Option (Int × Int)
  | [], _ => none
  | x :: _, 0 => some x
  | _ :: t, n + 1 => sx_ny t n
def sx_iv (Y : sx_Y) (x : sx_I) (k : Int → Int → Bool) : Bool := match x with
  | .inl z => k z z
  | .inr i => match sx_ny Y i with
    | some q => k q.1 q.2
    | none => false
def sx_kn (Y : sx_Y) (x : sx_I) (k : Int → Bool) : Bool := sx_iv Y x fun lo hi => cond (sx_eq lo hi) (k lo) false
/-- a new sign -/
def sx_fr (Y : sx_Y) (lo hi : Int) (k : sx_I → sx_Y → Bool) : Bool := k (.inr Y.length) (Y ++ [(lo, hi)])
def sx_ff (Y : sx_Y) (k : sx_I → sx_Y → Bool) : Bool := sx_fr Y (.negSucc 2147483647) (.ofNat 2147483647) k
/-- a result within bounds -/
def sx_ai (Y : sx_Y) (lo hi : Int) (k : sx_I → sx_Y → Bool) (no : Bool) : Bool := sx_fi lo fun lo => sx_fi hi fun hi => cond (sx_in lo hi) (cond (sx_eq lo hi) (k (.inl lo) Y) (sx_fr Y lo hi k)) no
def sx_ar (Y : sx_Y) (lo hi : Int) (k : sx_I → sx_Y → Bool) : Bool := sx_ai Y lo hi k (sx_ff Y k)
/-- every value from lo on, n of them -/
def sx_all (n : Nat) (lo : Int) (k : Int → Bool) : Bool := match n with
  | 0 => true
  | n + 1 => sx_fi lo k && sx_all n (lo + 1) k
/-- the value of an index: each that it may be -/
def sx_sp (Y : sx_Y) (x : sx_I) (k : Int → sx_Y → Bool) : Bool := match x with
  | .inl z => k z Y
  | .inr i => match sx_ny Y i with
    | some q => cond (sx_le (q.2 - q.1) (.ofNat 60)) (sx_all (q.2 + 1 - q.1).toNat q.1 fun z => k z (Y.set i (z, z))) false
    | none => false
/-! comparisons -/
def sx_may (c : ClassFile.Cond) (a b c' d : Int) : Bool := match c with
  | .eq => sx_le a d && sx_le c' b
  | .ne => !(sx_eq a b && sx_eq c' d && sx_eq a c')
  | .lt => !(sx_le d a)
  | .ge => sx_le c' b
  | .gt => !(sx_le b c')
  | .le => sx_le a d
def sx_neg (c : ClassFile.Cond) : ClassFile.Cond := match c with
  | .eq => .ne
  | .ne => .eq
  | .lt => .ge
  | .ge => .lt
  | .gt => .le
  | .le => .gt
def sx_swp (c : ClassFile.Cond) : ClassFile.Cond := match c with
  | .eq => .eq
  | .ne => .ne
  | .lt => .gt
  | .ge => .le
  | .gt => .lt
  | .le => .ge
def sx_rfn (c : ClassFile.Cond) (lo hi z : Int) : Int × Int := match c with
  | .eq => (z, z)
  | .ne => (cond (sx_eq lo z) (lo + 1) lo, cond (sx_eq hi z) (hi - 1) hi)
  | .lt => (lo, cond (sx_le z hi) (z - 1) hi)
  | .ge => (cond (sx_le lo z) z lo, hi)
  | .gt => (cond (sx_le lo z) (z + 1) lo, hi)
  | .le => (lo, cond (sx_le z hi) z hi)
/-- x is held against z, which is known -/
def sx_rf1 (c : ClassFile.Cond) (Y : sx_Y) (x : sx_I) (lo hi c' d : Int) : sx_Y := match x with
  | .inl _ => Y
  | .inr i => cond (sx_eq c' d) (Y.set i (sx_rfn c lo hi c')) Y
def sx_br1 (c : ClassFile.Cond) (Y : sx_Y) (x y : sx_I) (a b c' d : Int) (k : sx_Y → Bool) : Bool := cond (sx_may c a b c' d) (k (match x with
  | .inl _ => sx_rf1 (sx_swp c) Y y c' d a b
  | .inr _ => sx_rf1 c Y x a b c' d)) true
def sx_br (c : ClassFile.Cond) (Y : sx_Y) (x y : sx_I) (k k' : sx_Y → Bool) : Bool := sx_iv Y x fun a b => sx_iv Y y fun c' d => sx_br1 c Y x y a b c' d k && sx_br1 (sx_neg c) Y x y a b c' d k'
/-! places and stack -/
def sx_nt {β : Type} : List (Option β) → Nat → Option β
  | [], _ => none
  | x :: _, 0 => x
  | _ :: t, n + 1 => sx_nt t n
def sx_kl (L : sx_L) (i : Nat) : sx_L := match i with
  | 0 => L
  | j + 1 => match sx_nt L j with
    | some (.inr (.inl _)) => L.set j none
    | _ => L
def sx_s1 (L : sx_L) (i : Nat) (v : sx_V) : sx_L := (sx_kl L i).set i (some v)
def sx_s2 (L : sx_L) (i : Nat) (v : sx_V) : sx_L := ((sx_kl L i).set i (some v)).set (i + 1) none
def sx_cat : List sx_V → Nat
  | [] => 0
  | .inr (.inl _) :: t => 2 + sx_cat t
  | _ :: t => 1 + sx_cat t
def sx_ldi (L : sx_L) (i : Nat) (k : sx_I → Bool) : Bool := match sx_nt L i with
  | some (.inl z) => k z
  | _ => false
def sx_ldl (L : sx_L) (i : Nat) (k : Int64 → Bool) : Bool := match sx_nt L i with
  | some (.inr (.inl z)) => k z
  | _ => false
def sx_lda (L : sx_L) (i : Nat) (k : Option Nat → Bool) : Bool := match sx_nt L i with
  | some (.inr (.inr z)) => k z
  | _ => false
def sx_i1 (st : List sx_V) (k : sx_I → List sx_V → Bool) : Bool := match st with
  | .inl x :: t => k x t
  | _ => false
def sx_l1 (st : List sx_V) (k : Int64 → List sx_V → Bool) : Bool := match st with
  | .inr (.inl x) :: t => k x t
  | _ => false
def sx_r1 (st : List sx_V) (k : Option Nat → List sx_V → Bool) : Bool := match st with
  | .inr (.inr x) :: t => k x t
  | _ => false
def sx_a1 (st : List sx_V) (k : Nat → List sx_V → Bool) : Bool := match st with
  | .inr (.inr (some x)) :: t => k x t
  | _ => false
def sx_c1 (st : List sx_V) (k : sx_V → List sx_V → Bool) : Bool := match st with
  | .inl x :: t => k (.inl x) t
  | .inr (.inr x) :: t => k (.inr (.inr x)) t
  | _ => false
def sx_pop : Nat → List sx_V → List sx_V → (List sx_V → List sx_V → Bool) → Bool
  | 0, acc, st, k => k acc st
  | _ + 1, _, [], _ => false
  | n + 1, acc, v :: st, k => sx_pop n (v :: acc) st k
/-! arithmetic -/
def sx_op2 (Y : sx_Y) (st : List sx_V) (f : Int → Int → Int → Int → Option (Int × Int)) (k : sx_I → sx_Y → List sx_V → Bool) : Bool := sx_i1 st fun y st => sx_i1 st fun x st => sx_iv Y x fun a b => sx_iv Y y fun c d => match f a b c d with
  | some q => sx_ar Y q.1 q.2 fun x Y => k x Y st
  | none => sx_ff Y fun x Y => k x Y st
def sx_fadd (a b c d : Int) : Option (Int × Int) := some (a + c, b + d)
def sx_fsub (a b c d : Int) : Option (Int × Int) := some (a - d, b - c)
def sx_fmul (a b c d : Int) : Option (Int × Int) := cond (sx_eq a b && sx_eq c d) (some (a * c, a * c)) (cond (sx_eq c d && sx_le (.ofNat 0) c) (some (a * c, b * c)) (cond (sx_eq a b && sx_le (.ofNat 0) a) (some (a * c, a * d)) none))
def sx_bit (Y : sx_Y) (st : List sx_V) (an : Bool) (g : Int32 → Int32 → Int32) (k : sx_I → sx_Y → List sx_V → Bool) : Bool := sx_i1 st fun y st => sx_i1 st fun x st => sx_iv Y x fun a b => sx_iv Y y fun c d => cond (sx_eq c d) (cond (sx_eq a b) (sx_fi (g (Int32.ofInt a) (Int32.ofInt c)).toInt fun z => k (.inl z) Y st) (cond (an && (sx_le (.ofNat 0) c && sx_le c (.ofNat 2147483647))) (sx_fr Y (.ofNat 0) c fun x Y => k x Y st) (sx_ff Y fun x Y => k x Y st))) (sx_ff Y fun x Y => k x Y st)
def sx_un (Y : sx_Y) (st : List sx_V) (g : Int32 → Int32) (k : sx_I → sx_Y → List sx_V → Bool) : Bool := sx_i1 st fun x st => sx_iv Y x fun a b => cond (sx_eq a b) (sx_fi (g (Int32.ofInt a)).toInt fun z => k (.inl z) Y st) (sx_ff Y fun x Y => k x Y st)
/-! cells -/
noncomputable def sx_cl (h : sx_H) (i : Nat) (k : Nat → Nat → Lean.RArray sx_I → Lean.RArray Int64 → Lean.RArray (Option Nat) → Bool) : Bool := match sx_g h.2 i with
  | (t, n, a, b, c) => k t n a b c
noncomputable def sx_pt (h : sx_H) (i : Nat) (c : sx_c) (k : sx_H → Bool) : Bool := sx_sk 12 h.2 i c fun u => k (h.1, u)
noncomputable def sx_p0 (h : sx_H) (i j : Nat) (x : sx_I) (k : sx_H → Bool) : Bool := cond (Nat.blt j 4096) (sx_cl h i fun t n a b c => sx_sk 12 a j x fun a => sx_pt h i (t, n, a, b, c) k) false
noncomputable def sx_p1 (h : sx_H) (i j : Nat) (x : Int64) (k : sx_H → Bool) : Bool := cond (Nat.blt j 4096) (sx_cl h i fun t n a b c => sx_sk 12 b j x fun b => sx_pt h i (t, n, a, b, c) k) false
noncomputable def sx_p2 (h : sx_H) (i j : Nat) (x : Option Nat) (k : sx_H → Bool) : Bool := cond (Nat.blt j 4096) (sx_cl h i fun t n a b c => sx_sk 12 c j x fun c => sx_pt h i (t, n, a, b, c) k) false
def sx_nc (t n : Nat) : sx_c := (t, n, .leaf (.inl (.ofNat 0)), .leaf 0, .leaf none)
noncomputable def sx_nw (h : sx_H) (t n : Nat) (k : Nat → sx_H → Bool) : Bool := cond (Nat.blt h.1 4096) (sx_sk 12 h.2 h.1 (sx_nc t n) fun u => k h.1 (Nat.succ h.1, u)) false
/-- a boolean's bounds -/
def sx_tf (Y : sx_Y) (x : sx_I) : Bool := sx_iv Y x fun a b => sx_le (.ofNat 0) a && sx_le b (.ofNat 1)
def sx_isb (ty : FieldType) : Bool := match ty with
  | .boolean => true
  | _ => false
noncomputable def sx_get (ci fk : Nat) (st : List sx_V) (h : sx_H) (k : List sx_V → Bool) : Bool := cond (Nat.blt fk 4096) (sx_a1 st fun i st => sx_cl h i fun t _ a b c => cond (Nat.beq (Nat.mod t 1000) (ci + 1)) (match mj_so ci fk with
  | 0 => k (.inl (sx_g a fk) :: st)
  | 1 => k (.inr (.inl (sx_g b fk)) :: st)
  | _ => k (.inr (.inr (sx_g c fk)) :: st)) false) false
noncomputable def sx_wr (h : sx_H) (i s : Nat) (k : Bool) : Bool := sx_cl h i fun t _ _ _ _ => cond (Nat.beq (Nat.mod t 1000) s && Nat.blt t 900000) k false
noncomputable def sx_put (ci fk : Nat) (Y : sx_Y) (st : List sx_V) (h : sx_H) (k : List sx_V → sx_H → Bool) : Bool := match mj_so ci fk with
  | 0 => sx_i1 st fun z st => sx_a1 st fun i st => sx_wr h i (ci + 1) ((!sx_isb (mj_ty ci fk) || sx_tf Y z) && sx_p0 h i fk z fun h => k st h)
  | 1 => sx_l1 st fun z st => sx_a1 st fun i st => sx_wr h i (ci + 1) (sx_p1 h i fk z fun h => k st h)
  | _ => sx_r1 st fun z st => sx_a1 st fun i st => sx_wr h i (ci + 1) (sx_p2 h i fk z fun h => k st h)
/-- a place of an array: the array, its tag's rest, the index -/
noncomputable def sx_ix (Y : sx_Y) (st : List sx_V) (h : sx_H) (k : Nat → Nat → Nat → sx_c → sx_Y → List sx_V → Bool) : Bool := sx_i1 st fun x st => sx_a1 st fun i st => sx_cl h i fun t n a b c => sx_sp Y x fun z Y => cond (sx_le (.ofNat 0) z && (Nat.blt z.toNat n && Nat.blt z.toNat 4096)) (k i t z.toNat (t, n, a, b, c) Y st) false
/-! calls -/
def sx_wd : List sx_V → Nat
  | [] => 0
  | .inr (.inl _) :: t => 2 + sx_wd t
  | _ :: t => 1 + sx_wd t
def sx_en : List sx_V → Nat → sx_L
  | [], n => List.replicate n none
  | .inr (.inl w) :: t, n => some (.inr (.inl w)) :: none :: sx_en t (n - 2)
  | .inl z :: t, n => some (.inl z) :: sx_en t (n - 1)
  | .inr (.inr r) :: t, n => some (.inr (.inr r)) :: sx_en t (n - 1)
def sx_full (y : Nat) : List mj_E := cond (Nat.blt y 900) (mj_tab y).2.2.2.2.1 mj_law
noncomputable def sx_call (K : sx_K) (y d : Nat) (rest : List mj_E) (L : sx_L) (st : List sx_V) (cb sb : Nat) (fs : List sx_F) (h : sx_H) (Y : sx_Y) (f : Nat) (av : List sx_V) : Bool := match d with
  | 0 => false
  | d + 1 => cond (Nat.ble (sx_cat st) 8 && (Nat.ble (mj_tab f).2.2.2.2.2.2.1 cb && (Nat.ble (mj_tab f).2.2.2.2.2.2.2 sb && (Nat.ble (sx_wd av) (mj_tab f).2.2.1 && Nat.blt f 900)))) (K f d (mj_tab f).2.2.2.2.1 (sx_en av (mj_tab f).2.2.1) [] (mj_tab f).2.2.2.2.2.2.1 (mj_tab f).2.2.2.2.2.2.2 ((y, d + 1, rest, L, st, cb - (mj_tab f).2.2.2.2.2.2.1, sb - (mj_tab f).2.2.2.2.2.2.2) :: fs) h Y) false
def sx_back (K : sx_K) (fs : List sx_F) (h : sx_H) (Y : sx_Y) (r : Option sx_V) : Bool := match fs with
  | [] => match r with
    | some (.inl x) => sx_kn Y x fun z => sx_eq z (.ofNat 1)
    | _ => false
  | (y, d, rest, L, st, cb, sb) :: fs => match r with
    | none => K y d rest L st cb sb fs h Y
    | some v => K y d rest L (v :: st) cb sb fs h Y
def sx_swt (Y : sx_Y) (lo hi : Int) (k : Nat → sx_Y → Bool) (x : sx_I) : Int → List Nat → Bool
  | _, [] => true
  | v, t :: ts => cond (sx_le lo v && sx_le v hi) (k t (match x with
    | .inl _ => Y
    | .inr i => Y.set i (v, v))) true && sx_swt Y lo hi k x (v + 1) ts
noncomputable def sx_cpa {β : Type} : Nat → Lean.RArray β → Nat → Lean.RArray β → Nat → (Lean.RArray β → Bool) → Bool
  | 0, _, _, b, _, k => k b
  | n + 1, a, sp, b, dp, k => sx_sk 12 b (dp + n) (sx_g a (sp + n)) fun b => sx_cpa n a sp b dp k
/-- the rows of new int[n][m] -/
noncomputable def sx_rws (t m : Nat) : Nat → sx_H → (sx_H → Bool) → Bool
  | 0, h, k => k h
  | n + 1, h, k => sx_nw h t m fun _ h => sx_rws t m n h k
noncomputable def sx_rfs (b : Nat) : Nat → Lean.RArray (Option Nat) → (Lean.RArray (Option Nat) → Bool) → Bool
  | 0, u, k => k u
  | n + 1, u, k => sx_sk 12 u n (some (b + n)) fun u => sx_rfs b n u k
noncomputable def sx_lib (f : Nat) (Y : sx_Y) (st : List sx_V) (h : sx_H) (k : List sx_V → sx_H → Bool) : Bool := match f with
  | 0 => sx_i1 st fun y st => sx_i1 st fun x st => cond (Nat.ble (sx_cat st) 8) (sx_kn Y x fun x => sx_kn Y y fun y => k (.inl (.inl (cond (sx_le y x) x y)) :: st) h) false
  | 1 => sx_i1 st fun y st => sx_i1 st fun x st => cond (Nat.ble (sx_cat st) 8) (sx_kn Y x fun x => sx_kn Y y fun y => k (.inl (.inl (cond (sx_le x y) x y)) :: st) h) false
  | 3 => sx_i1 st fun n st => sx_i1 st fun dp st => sx_a1 st fun b st => sx_i1 st fun sp st => sx_a1 st fun a st => sx_kn Y n fun n => sx_kn Y dp fun dp => sx_kn Y sp fun sp => sx_cl h a fun ta na ia _ _ => sx_cl h b fun tb nb ib lb rb => cond (Nat.beq (Nat.mod ta 1000) 100 && (Nat.beq (Nat.mod tb 1000) 100 && (Nat.blt tb 900000 && (sx_le (.ofNat 0) sp && (sx_le (.ofNat 0) dp && (sx_le (.ofNat 0) n && (Nat.ble (sp.toNat + n.toNat) na && (Nat.ble (dp.toNat + n.toNat) nb && (Nat.ble na 4096 && (Nat.ble nb 4096 && Nat.ble (sx_cat st) 8)))))))))) (sx_cpa n.toNat ia sp.toNat ib dp.toNat fun ib => sx_pt h b (tb, nb, ib, lb, rb) fun h => k st h) false
  | 4 => sx_i1 st fun n st => sx_i1 st fun dp st => sx_a1 st fun b st => sx_i1 st fun sp st => sx_a1 st fun a st => sx_kn Y n fun n => sx_kn Y dp fun dp => sx_kn Y sp fun sp => sx_cl h a fun ta na _ ia _ => sx_cl h b fun tb nb lb ib rb => cond (Nat.beq (Nat.mod ta 1000) 103 && (Nat.beq (Nat.mod tb 1000) 103 && (Nat.blt tb 900000 && (sx_le (.ofNat 0) sp && (sx_le (.ofNat 0) dp && (sx_le (.ofNat 0) n && (Nat.ble (sp.toNat + n.toNat) na && (Nat.ble (dp.toNat + n.toNat) nb && (Nat.ble na 4096 && (Nat.ble nb 4096 && Nat.ble (sx_cat st) 8)))))))))) (sx_cpa n.toNat ia sp.toNat ib dp.toNat fun ib => sx_pt h b (tb, nb, lb, ib, rb) fun h => k st h) false
  | _ => false
/-- told of a fresh object: it throws, and the law's told answers 1 -/
noncomputable def sx_told (K : sx_K) (y d : Nat) (rest : List mj_E) (L : sx_L) (st : List sx_V) (cb sb : Nat) (fs : List sx_F) (h : sx_H) (Y : sx_Y) : Bool := sx_r1 st fun _ st => sx_i1 st fun _ st => sx_i1 st fun _ st => sx_a1 st fun x st => sx_cl h x fun t1 _ _ _ c1 => match sx_g c1 1 with
  | none => false
  | some b => sx_cl h b fun t2 _ _ _ c2 => match sx_g c2 0 with
    | none => false
    | some c => sx_cl h c fun t3 _ a3 _ _ => sx_kn Y (sx_g a3 4) fun z => cond (Nat.beq (Nat.mod t1 1000) 11 && (Nat.beq (Nat.mod t2 1000) 7 && (Nat.beq (Nat.mod t3 1000) 4 && (sx_eq z (.ofNat 0) && (Nat.ble (sx_cat st) 8 && (Nat.ble 4 cb && Nat.ble 64 sb)))))) (K y d rest L (.inl (.inl (.ofNat 1)) :: st) (cb - 4) (sb - 64) fs h Y) false
noncomputable def sx_tl (K : sx_K) (y d : Nat) (rest : List mj_E) (L : sx_L) (st : List sx_V) (cb sb : Nat) (fs : List sx_F) (h : sx_H) (Y : sx_Y) : Bool := match fs with
  | [] => sx_told K y d rest L st cb sb [] h Y
  | _ => false
/-- the law reads its script: signs 0 to 5 are its ints, sign 6 its length, cell 0 itself -/
def sx_scl (y d : Nat) (rest : List mj_E) (L : sx_L) (st : List sx_V) (cb sb : Nat) (fs : List sx_F) (h : sx_H) (Y : sx_Y) (K : sx_K) : Bool := fs.isEmpty && sx_i1 st fun x st => sx_a1 st fun i st => sx_kn Y x fun z => sx_iv Y (.inr 6) fun lo _ => cond (Nat.beq i 0 && (sx_le (.ofNat 0) z && (!sx_le lo z && Nat.blt z.toNat 6))) (K y d rest L (.inl (.inr z.toNat) :: st) cb sb fs h Y) false
def sx_sln (y d : Nat) (rest : List mj_E) (L : sx_L) (st : List sx_V) (cb sb : Nat) (fs : List sx_F) (h : sx_H) (Y : sx_Y) (K : sx_K) : Bool := fs.isEmpty && sx_a1 st fun i st => cond (Nat.beq i 0) (K y d rest L (.inl (.inr 6) :: st) cb sb fs h Y) false
/-- the law's sort of call: sign 7 is the script's first int, its six lowest bits -/
def sx_opc (y d : Nat) (rest : List mj_E) (L : sx_L) (st : List sx_V) (cb sb : Nat) (fs : List sx_F) (h : sx_H) (Y : sx_Y) (K : sx_K) : Bool := fs.isEmpty && sx_i1 st fun v st => sx_i1 st fun x st => match x with
  | .inr 0 => sx_kn Y v fun z => cond (sx_eq z (.ofNat 63)) (K y d rest L (.inl (.inr 7) :: st) cb sb fs h Y) false
  | _ => false
/-- one instruction -/
noncomputable def sx_st (K : sx_K) : sx_K := fun y d rest L st cb sb fs h Y => match rest with
  | [] => false
  | x :: rest => match x.1 with
    | .iload_n i => sx_ldi L i.val fun v => K y d rest L (.inl v :: st) cb sb fs h Y
    | .iload i => sx_ldi L i fun v => K y d rest L (.inl v :: st) cb sb fs h Y
    | .lload_n i => sx_ldl L i.val fun v => K y d rest L (.inr (.inl v) :: st) cb sb fs h Y
    | .lload i => sx_ldl L i fun v => K y d rest L (.inr (.inl v) :: st) cb sb fs h Y
    | .aload_n i => sx_lda L i.val fun v => K y d rest L (.inr (.inr v) :: st) cb sb fs h Y
    | .aload i => sx_lda L i fun v => K y d rest L (.inr (.inr v) :: st) cb sb fs h Y
    | .istore_n i => sx_i1 st fun z st => K y d rest (sx_s1 L i.val (.inl z)) st cb sb fs h Y
    | .istore i => sx_i1 st fun z st => K y d rest (sx_s1 L i (.inl z)) st cb sb fs h Y
    | .astore_n i => sx_r1 st fun z st => K y d rest (sx_s1 L i.val (.inr (.inr z))) st cb sb fs h Y
    | .astore i => sx_r1 st fun z st => K y d rest (sx_s1 L i (.inr (.inr z))) st cb sb fs h Y
    | .iinc i c => sx_ldi L i fun v => sx_iv Y v fun lo hi => sx_ai Y (lo + c) (hi + c) (fun v Y => K y d rest (sx_s1 L i (.inl v)) st cb sb fs h Y) false
    | .iconst z => K y d rest L (.inl (.inl z) :: st) cb sb fs h Y
    | .bipush z => K y d rest L (.inl (.inl z) :: st) cb sb fs h Y
    | .sipush z => K y d rest L (.inl (.inl z) :: st) cb sb fs h Y
    | .ldc _ => K y d rest L (.inl (.inl x.2.2.2) :: st) cb sb fs h Y
    | .ldc2_w _ => K y d rest L (.inr (.inl (Int64.ofInt x.2.2.2)) :: st) cb sb fs h Y
    | .lconst z => K y d rest L (.inr (.inl (Int64.ofNat z.val)) :: st) cb sb fs h Y
    | .aconst_null => K y d rest L (.inr (.inr none) :: st) cb sb fs h Y
    | .iadd => sx_op2 Y st sx_fadd fun v Y st => K y d rest L (.inl v :: st) cb sb fs h Y
    | .isub => sx_op2 Y st sx_fsub fun v Y st => K y d rest L (.inl v :: st) cb sb fs h Y
    | .imul => sx_op2 Y st sx_fmul fun v Y st => K y d rest L (.inl v :: st) cb sb fs h Y
    | .iand => cond (Nat.beq y 900) (sx_opc y d rest L st cb sb fs h Y K) (sx_bit Y st true (fun x y => x &&& y) fun v Y st => K y d rest L (.inl v :: st) cb sb fs h Y)
    | .ior => sx_bit Y st false (fun x y => x ||| y) fun v Y st => K y d rest L (.inl v :: st) cb sb fs h Y
    | .ishl => sx_bit Y st false (fun x y => x <<< (y &&& 31)) fun v Y st => K y d rest L (.inl v :: st) cb sb fs h Y
    | .ishr => sx_bit Y st false (fun x y => x >>> (y &&& 31)) fun v Y st => K y d rest L (.inl v :: st) cb sb fs h Y
    | .iushr => sx_bit Y st false (fun x y => (x.toUInt32 >>> (y.toUInt32 &&& Int32.toUInt32 31)).toInt32) fun v Y st => K y d rest L (.inl v :: st) cb sb fs h Y
    | .ineg => sx_un Y st (fun x => -x) fun v Y st => K y d rest L (.inl v :: st) cb sb fs h Y
    | .i2b => sx_un Y st (fun x => x.toInt8.toInt32) fun v Y st => K y d rest L (.inl v :: st) cb sb fs h Y
    | .dup => sx_c1 st fun v st => K y d rest L (v :: v :: st) cb sb fs h Y
    | .dup2 => sx_c1 st fun v st => sx_c1 st fun w st => K y d rest L (v :: w :: v :: w :: st) cb sb fs h Y
    | .pop => sx_c1 st fun _ st => K y d rest L st cb sb fs h Y
    | .ifCond c _ => sx_i1 st fun z st => sx_br c Y z (.inl (.ofNat 0)) (fun Y => K y d ((sx_full y).drop (mj_hd x.2.2.1)) L st cb sb fs h Y) (fun Y => K y d rest L st cb sb fs h Y)
    | .if_icmp c _ => sx_i1 st fun v st => sx_i1 st fun z st => sx_br c Y z v (fun Y => K y d ((sx_full y).drop (mj_hd x.2.2.1)) L st cb sb fs h Y) (fun Y => K y d rest L st cb sb fs h Y)
    | .ifnull _ => sx_r1 st fun z st => match z with
      | none => K y d ((sx_full y).drop (mj_hd x.2.2.1)) L st cb sb fs h Y
      | some _ => K y d rest L st cb sb fs h Y
    | .ifnonnull _ => sx_r1 st fun z st => match z with
      | some _ => K y d ((sx_full y).drop (mj_hd x.2.2.1)) L st cb sb fs h Y
      | none => K y d rest L st cb sb fs h Y
    | .goto _ => K y d ((sx_full y).drop (mj_hd x.2.2.1)) L st cb sb fs h Y
    | .getfield _ => !x.2.2.1.isEmpty && (Nat.blt (mj_hd x.2.2.1) 49 && sx_get (mj_hd x.2.2.1) (mj_h1 x.2.2.1) st h fun st => K y d rest L st cb sb fs h Y)
    | .putfield _ => !x.2.2.1.isEmpty && sx_put (mj_hd x.2.2.1) (mj_h1 x.2.2.1) Y st h fun st h => K y d rest L st cb sb fs h Y
    | .iaload => cond (Nat.beq y 900) (sx_scl y d rest L st cb sb fs h Y K) (sx_ix Y st h fun _ t k c Y st => cond (Nat.beq (Nat.mod t 1000) 100) (K y d rest L (.inl (sx_g c.2.2.1 k) :: st) cb sb fs h Y) false)
    | .baload => sx_ix Y st h fun _ t k c Y st => cond (Nat.beq (Nat.mod t 1000) 101 || Nat.beq (Nat.mod t 1000) 102) (K y d rest L (.inl (sx_g c.2.2.1 k) :: st) cb sb fs h Y) false
    | .laload => sx_ix Y st h fun _ t k c Y st => cond (Nat.beq (Nat.mod t 1000) 103) (K y d rest L (.inr (.inl (sx_g c.2.2.2.1 k)) :: st) cb sb fs h Y) false
    | .aaload => sx_ix Y st h fun _ t k c Y st => cond (Nat.beq (Nat.mod t 1000) (100 + mj_hd x.2.2.1)) (K y d rest L (.inr (.inr (sx_g c.2.2.2.2 k)) :: st) cb sb fs h Y) false
    | .iastore => sx_i1 st fun z st => sx_ix Y st h fun i t k _ Y st => cond (Nat.beq (Nat.mod t 1000) 100 && Nat.blt t 900000) (sx_p0 h i k z fun h => K y d rest L st cb sb fs h Y) false
    | .bastore => sx_i1 st fun z st => sx_ix Y st h fun i t k _ Y st => cond (Nat.blt t 900000) (cond (Nat.beq (Nat.mod t 1000) 101) (sx_iv Y z fun a b => cond (sx_eq a b) (sx_fi (mj_nb a) fun z => sx_p0 h i k (.inl z) fun h => K y d rest L st cb sb fs h Y) (sx_ff Y fun z Y => sx_p0 h i k z fun h => K y d rest L st cb sb fs h Y)) (cond (Nat.beq (Nat.mod t 1000) 102 && sx_tf Y z) (sx_p0 h i k z fun h => K y d rest L st cb sb fs h Y) false)) false
    | .lastore => sx_l1 st fun z st => sx_ix Y st h fun i t k _ Y st => cond (Nat.beq (Nat.mod t 1000) 103 && Nat.blt t 900000) (sx_p1 h i k z fun h => K y d rest L st cb sb fs h Y) false
    | .aastore => sx_r1 st fun z st => sx_ix Y st h fun i t k _ Y st => cond (Nat.beq (Nat.mod t 1000) (100 + mj_hd x.2.2.1) && Nat.blt t 900000) (match z with
      | none => sx_p2 h i k none fun h => K y d rest L st cb sb fs h Y
      | some b => sx_cl h b fun tb _ _ _ _ => cond (Nat.beq (mj_hd x.2.2.1) 6 && Nat.beq (Nat.mod tb 1000) 7) (sx_p2 h i k (some b) fun h => K y d rest L st cb sb fs h Y) false) false
    | .tableswitch _ lo hi _ => sx_i1 st fun z st => sx_iv Y z fun a b => (cond (sx_le lo a) true (K y d ((sx_full y).drop (mj_hd x.2.2.1)) L st cb sb fs h (sx_rf1 .lt Y z a b lo lo)) && cond (sx_le b hi) true (K y d ((sx_full y).drop (mj_hd x.2.2.1)) L st cb sb fs h (sx_rf1 .gt Y z a b hi hi))) && sx_swt Y a b (fun t Y => K y d ((sx_full y).drop t) L st cb sb fs h Y) z lo (x.2.2.1.drop 1)
    | .arraylength => cond (Nat.beq y 900) (sx_sln y d rest L st cb sb fs h Y K) (sx_a1 st fun i st => sx_cl h i fun t n _ _ _ => cond (Nat.ble 100 (Nat.mod t 1000) && (Nat.blt (Nat.mod t 1000) 107 && Nat.ble n 4096)) (K y d rest L (.inl (.inl (.ofNat n)) :: st) cb sb fs h Y) false)
    | .newarray _ => sx_i1 st fun z st => sx_kn Y z fun z => cond (sx_le (.ofNat 0) z && (Nat.ble z.toNat 4096 && (Nat.ble 1 cb && (Nat.ble z.toNat sb && Nat.blt (mj_hd x.2.2.1) 4)))) (sx_nw h (1100 + mj_hd x.2.2.1) z.toNat fun i h => K y d rest L (.inr (.inr (some i)) :: st) (cb - 1) (sb - z.toNat) fs h Y) false
    | .anewarray _ => sx_i1 st fun z st => sx_kn Y z fun z => cond (sx_le (.ofNat 0) z && (Nat.ble z.toNat 4096 && (Nat.ble 1 cb && (Nat.ble z.toNat sb && Nat.blt (mj_hd x.2.2.1) 7)))) (sx_nw h (1100 + mj_hd x.2.2.1) z.toNat fun i h => K y d rest L (.inr (.inr (some i)) :: st) (cb - 1) (sb - z.toNat) fs h Y) false
    | .multianewarray _ _ => sx_i1 st fun z st => sx_i1 st fun v st => sx_kn Y z fun z => sx_kn Y v fun v => cond (sx_le (.ofNat 0) z && (sx_le (.ofNat 0) v && (Nat.ble z.toNat 1000 && (Nat.ble v.toNat 1000 && (Nat.ble (1 + v.toNat) cb && Nat.ble (v.toNat + v.toNat * z.toNat) sb))))) (sx_nw h 1104 v.toNat fun i h => sx_rws 1100 z.toNat v.toNat h fun h => sx_cl h i fun t n a b c => sx_rfs (i + 1) v.toNat c fun c => sx_pt h i (t, n, a, b, c) fun h => K y d rest L (.inr (.inr (some i)) :: st) (cb - (1 + v.toNat)) (sb - (v.toNat + v.toNat * z.toNat)) fs h Y) false
    | .new _ => cond (!x.2.2.1.isEmpty && (Nat.ble 1 cb && (Nat.ble (mj_h1 x.2.2.1) sb && Nat.blt (mj_hd x.2.2.1) 90))) (sx_nw h (1001 + mj_hd x.2.2.1) 0 fun i h => K y d rest L (.inr (.inr (some i)) :: st) (cb - 1) (sb - mj_h1 x.2.2.1) fs h Y) false
    | .invokevirtual _ => !x.2.2.1.isEmpty && sx_pop (mj_h1 x.2.2.1) [] st fun As st => sx_a1 st fun a st => sx_cl h a fun t _ _ _ _ => cond (Nat.beq (Nat.mod t 1000) (mj_h2 x.2.2.1 + 1)) (sx_call K y d rest L st cb sb fs h Y (mj_hd x.2.2.1) (.inr (.inr (some a)) :: As)) false
    | .invokestatic _ => match x.2.2.1 with
      | [] => cond (Nat.beq y 900) (sx_tl K y d rest L st cb sb fs h Y) false
      | [f, _] => sx_lib f Y st h fun st h => K y d rest L st cb sb fs h Y
      | _ => sx_pop (mj_h1 x.2.2.1) [] st fun As st => sx_call K y d rest L st cb sb fs h Y (mj_hd x.2.2.1) As
    | .invokespecial _ => match x.2.2.1 with
      | [] => sx_a1 st fun _ st => cond (Nat.ble (sx_cat st) 8) (K y d rest L st cb sb fs h Y) false
      | f :: _ => sx_pop (mj_h1 x.2.2.1) [] st fun As st => sx_a1 st fun a st => sx_cl h a fun t _ _ _ _ => cond (Nat.beq (Nat.mod t 1000) (mj_h2 x.2.2.1 + 1)) (sx_call K y d rest L st cb sb fs h Y f (.inr (.inr (some a)) :: As)) false
    | .ireturn => sx_i1 st fun z st => st.isEmpty && ((cond (sx_eq x.2.2.2 (.ofNat 1)) (sx_tf Y z) true) && sx_back K fs h Y (some (.inl z)))
    | .return_ => st.isEmpty && sx_back K fs h Y none
    | _ => false
noncomputable def sx_ex (n : Nat) : sx_K := Nat.rec (motive := fun _ => sx_K) (fun _ _ _ _ _ _ _ _ _ _ => false) (fun _ ih => sx_st ih) n
noncomputable def sx_exT (n : Nat) : sx_K := Nat.rec (motive := fun _ => sx_K) (fun _ _ _ _ _ _ _ _ _ _ => true) (fun _ ih => sx_st ih) n
