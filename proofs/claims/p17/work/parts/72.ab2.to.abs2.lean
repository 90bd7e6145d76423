section
/-! ===== the abstract run, second part ===== -/
/-! cells -/
def ab_tg (R : ab_R) (r : Nat) (k : Nat → Nat → Bool) : Bool := match ab_nR R r with
  | some q => k q.1 q.2
  | none => false
def ab_lk (Y : ab_Y) (r : Nat) (x : ab_I) : ab_m → Option ab_V
  | [] => none
  | (r2, x2, v) :: t => cond (Nat.beq r2 r && ab_sm Y x2 x) (some v) (ab_lk Y r x t)
def ab_hln (t a : Nat) (b : Int) : Nat → Int → Int → Int → (Int → Int → Bool) → Bool
  | 0, _, l, h, k => k l h
  | n + 1, x, l, h, k => sx_fi (ab_mn l (ab_rg t (Int.ofNat a * x + b).toNat).1) fun l => sx_fi (ab_mx h (ab_rg t (Int.ofNat a * x + b).toNat).2) fun h => sx_fi (x + 1) fun x => ab_hln t a b n x l h k
/-- the bounds of what may stand at x in a cell of tag t -/
def ab_hl (Y : ab_Y) (t : Nat) (x : ab_I) (k : Int → Int → Bool) : Bool := match x with
  | .inl z => k (ab_rg t z.toNat).1 (ab_rg t z.toNat).2
  | .inr (i, a, b) => cond (ab_per t) (match ab_ny Y i with
    | none => false
    | some q => cond (sx_le (q.2.1 - q.1) (.ofNat 1100)) (ab_hln t a b (q.2.1 + 1 - q.1).toNat q.1 (ab_rg t (Int.ofNat a * q.1 + b).toNat).1 (ab_rg t (Int.ofNat a * q.1 + b).toNat).2 k) false) (cond (Nat.ble 100 (Nat.mod t 1000)) (k (ab_rga t).1 (ab_rga t).2) false)
def ab_rdi (Y : ab_Y) (R : ab_R) (m : ab_m) (r : Nat) (x : ab_I) (k : ab_I → ab_Y → ab_m → Bool) : Bool := match ab_lk Y r x m with
  | some (.inl v) => k v Y m
  | some (.inr _) => false
  | none => ab_tg R r fun t _ => cond (Nat.beq t 0 || (Nat.beq t 1 || Nat.beq (Nat.mod t 1000) 50)) false (ab_hl Y t x fun lo hi => ab_fr Y lo hi [] fun v Y => k v Y ((r, x, .inl v) :: m))
def ab_rdr (Y : ab_Y) (R : ab_R) (m : ab_m) (r : Nat) (x : ab_I) (k : Nat → ab_R → ab_m → Bool) : Bool := match ab_lk Y r x m with
  | some (.inr (.inr u)) => k u R m
  | some _ => false
  | none => ab_tg R r fun t n => cond (Nat.beq t 0 || (Nat.beq t 1 || Nat.beq (Nat.mod t 1000) 50)) false (ab_iv Y x fun lo hi => cond (cond (Nat.ble 100 (Nat.mod t 1000)) (sx_le (.ofNat 0) lo && (!sx_le (.ofNat n) hi)) (sx_eq lo hi)) (match ab_rf t lo.toNat with
    | some q => k R.length (R ++ [q]) ((r, x, .inr (.inr R.length)) :: m)
    | none => false) false)
/-- surely not the same place -/
def ab_dj (Y : ab_Y) (x y : ab_I) : Bool := ab_ge Y x y (.ofNat 1) || (ab_ge Y y x (.ofNat 1) || (match x, y with
  | .inr (i, a, b), .inr (j, c, d) => Nat.beq i j && (Nat.beq a c && !sx_eq b d)
  | .inr (_, a, b), .inl z => !sx_eq ((z - b) % Int.ofNat a) (.ofNat 0)
  | .inl z, .inr (_, a, b) => !sx_eq ((z - b) % Int.ofNat a) (.ofNat 0)
  | _, _ => false))
def ab_wk (t : Nat) : Bool := Nat.beq t ab_rdt
/-- what is still known behind a write of v (none: a reference) at x of r, a cell of tag t -/
def ab_kl (R : ab_R) (t r : Nat) (x : ab_I) (v : Option ab_I) : ab_m → ab_Y → (ab_m → ab_Y → Bool) → Bool
  | [], Y, k => k [] Y
  | (r2, x2, v2) :: rest, Y, k => ab_tg R r2 fun t2 _ => cond (!Nat.beq t2 t || ab_dj Y x2 x) (ab_kl R t r x v rest Y fun m Y => k ((r2, x2, v2) :: m) Y) (cond (ab_wk t && (Nat.beq r2 r && !ab_sm Y x2 x)) (match v, v2 with
    | some v, .inl u => ab_iv Y v fun a b => ab_iv Y u fun c d => ab_fr Y (ab_mn a c) (ab_mx b d) [] fun q Y => ab_kl R t r x (some v) rest Y fun m Y => k ((r2, x2, .inl q) :: m) Y
    | v, _ => ab_kl R t r x v rest Y k) (ab_kl R t r x v rest Y k))
def ab_fa (t a : Nat) (b lo hi : Int) : Nat → Int → Bool
  | 0, _ => true
  | n + 1, x => (sx_le (ab_rg t (Int.ofNat a * x + b).toNat).1 lo && sx_le hi (ab_rg t (Int.ofNat a * x + b).toNat).2) && sx_fi (x + 1) fun x => ab_fa t a b lo hi n x
def ab_fc (t a : Nat) (b : Int) (t2 a2 : Nat) (b2 : Int) : Nat → Int → Bool
  | 0, _ => true
  | n + 1, x => (sx_le (ab_rg t (Int.ofNat a * x + b).toNat).1 (ab_rg t2 (Int.ofNat a2 * x + b2).toNat).1 && sx_le (ab_rg t2 (Int.ofNat a2 * x + b2).toNat).2 (ab_rg t (Int.ofNat a * x + b).toNat).2) && sx_fi (x + 1) fun x => ab_fc t a b t2 a2 b2 n x
/-- may v stand at x of a cell of tag t -/
def ab_ft (Y : ab_Y) (R : ab_R) (m : ab_m) (t : Nat) (x v : ab_I) : Bool := match x with
  | .inl z => ab_ge Y v (.inl (ab_rg t z.toNat).1) (.ofNat 0) && ab_le Y v (ab_rg t z.toNat).2
  | .inr (i, a, b) => cond (ab_per t) (match ab_ny Y i with
    | none => false
    | some q => cond (sx_le (q.2.1 - q.1) (.ofNat 1100)) (ab_iv Y v fun lo hi => ab_fa t a b lo hi (q.2.1 + 1 - q.1).toNat q.1 || m.any (fun e => match e with
      | (r2, .inr (i2, a2, b2), .inl v2) => Nat.beq i2 i && (ab_ie v2 v && ab_tg R r2 fun t2 _ => Nat.blt 1 t2 && (!Nat.beq t2 50 && ab_fc t a b t2 a2 b2 (q.2.1 + 1 - q.1).toNat q.1))
      | _ => false)) false) (cond (Nat.ble 100 (Nat.mod t 1000)) (ab_ge Y v (.inl (ab_rga t).1) (.ofNat 0) && ab_le Y v (ab_rga t).2) false)
def ab_cw (W : List (Nat × Nat × Nat)) (t : Nat) (lo hi : Int) : Bool := W.any (fun q => Nat.beq q.1 t && (sx_le (.ofNat q.2.1) lo && sx_le hi (.ofNat q.2.2)))
def ab_wri (W : List (Nat × Nat × Nat)) (Y : ab_Y) (R : ab_R) (m : ab_m) (r : Nat) (x v : ab_I) (k : ab_Y → ab_m → Bool) : Bool := ab_tg R r fun t _ => ab_iv Y x fun lo hi => cond (Nat.blt t 900000 && (Nat.blt 1 t && (!Nat.beq t 50 && (ab_cw W t lo hi && ab_ft Y R m t x v)))) (ab_kl R t r x (some v) m Y fun m Y => k Y ((r, x, .inl v) :: m)) false
def ab_ts (p q : Nat × Nat) : Bool := (Nat.beq p.1 q.1 && Nat.beq p.2 q.2) || ((Nat.beq p.1 0 && (Nat.beq q.1 0 || (Nat.beq q.1 1 || Nat.beq (Nat.mod q.1 1000) 50))) || (Nat.beq p.1 50 && Nat.beq (Nat.mod q.1 1000) 50))
def ab_wrr (W : List (Nat × Nat × Nat)) (Y : ab_Y) (R : ab_R) (m : ab_m) (r : Nat) (x : ab_I) (u : Nat) (k : ab_Y → ab_m → Bool) : Bool := ab_tg R r fun t _ => ab_tg R u fun tu nu => ab_iv Y x fun lo hi => cond (Nat.blt t 900000 && (Nat.blt 1 t && (!Nat.beq t 50 && (ab_cw W t lo hi && cond (Nat.ble 100 (Nat.mod t 1000)) true (sx_eq lo hi))))) (match ab_rf t lo.toNat with
  | none => false
  | some q => cond (ab_ts q (tu, nu)) (ab_kl R t r x none m Y fun m Y => k Y ((r, x, .inr (.inr u)) :: m)) false) false
/-! patterns -/
abbrev ab_sg : Type := List (Option ab_I)
abbrev ab_rr : Type := List (Option Nat)
def ab_cp (a : Nat) (b : Int) (t : ab_I) : ab_I := match t with
  | .inl z => .inl (Int.ofNat a * z + b)
  | .inr (i, f, q) => .inr (i, a * f, Int.ofNat a * q + b)
def ab_mv (Rp : ab_R) (Y : ab_Y) (R : ab_R) (p u : ab_V) (sg : ab_sg) (rf : ab_rr) (k : ab_sg → ab_rr → Bool) : Bool := match p, u with
  | .inl (.inl z), .inl x => ab_iv Y x fun lo hi => cond (sx_eq lo z && sx_eq hi z) (k sg rf) false
  | .inl (.inr (i, a, b)), .inl x => match sx_nt sg i with
    | some t => cond (ab_sm Y (ab_cp a b t) x) (k sg rf) false
    | none => cond (Nat.beq a 1 && (sx_eq b (.ofNat 0) && Nat.blt i sg.length)) (k (sg.set i (some x)) rf) false
  | .inr (.inl _), .inr (.inl _) => k sg rf
  | .inr (.inr j), .inr (.inr u) => match sx_nt rf j with
    | some u' => cond (Nat.beq u u') (k sg rf) false
    | none => match ab_nR Rp j, ab_nR R u with
      | some p, some q => cond (ab_ts p q && Nat.blt j rf.length) (k sg (rf.set j (some u))) false
      | _, _ => false
  | _, _ => false
def ab_mvs (Rp : ab_R) (Y : ab_Y) (R : ab_R) : ab_L → ab_L → ab_sg → ab_rr → (ab_sg → ab_rr → Bool) → Bool
  | [], [], sg, rf, k => k sg rf
  | none :: ps, _ :: us, sg, rf, k => ab_mvs Rp Y R ps us sg rf k
  | some p :: ps, some u :: us, sg, rf, k => ab_mv Rp Y R p u sg rf fun sg rf => ab_mvs Rp Y R ps us sg rf k
  | _, _, _, _, _ => false
def ab_mms (Rp : ab_R) : List (Nat × Nat × ab_V) → ab_Y → ab_R → ab_m → ab_sg → ab_rr → (ab_sg → ab_rr → ab_Y → ab_R → ab_m → Bool) → Bool
  | [], Y, R, m, sg, rf, k => k sg rf Y R m
  | (r, x, .inl p) :: t, Y, R, m, sg, rf, k => match sx_nt rf r with
    | none => false
    | some r' => ab_rdi Y R m r' (.inl (.ofNat x)) fun v Y m => ab_mv Rp Y R (.inl p) (.inl v) sg rf fun sg rf => ab_mms Rp t Y R m sg rf k
  | (r, x, .inr (.inr j)) :: t, Y, R, m, sg, rf, k => match sx_nt rf r with
    | none => false
    | some r' => ab_rdr Y R m r' (.inl (.ofNat x)) fun u R m => ab_mv Rp Y R (.inr (.inr j)) (.inr (.inr u)) sg rf fun sg rf => ab_mms Rp t Y R m sg rf k
  | (_, _, .inr (.inl _)) :: _, _, _, _, _, _, _ => false
def ab_mb (Y : ab_Y) (sg : ab_sg) : ab_Y → ab_sg → Bool
  | [], [] => true
  | (lo, hi, rel) :: t, some x :: g => ab_ge Y x (.inl lo) (.ofNat 0) && (ab_le Y x hi && (rel.all (fun r => match sx_nt sg r.1 with
    | some y => ab_ge Y x y r.2
    | none => false) && ab_mb Y sg t g))
  | _, _ => false
def ab_mt (P : ab_pt) (us : ab_L) (sg : ab_sg) (rf : ab_rr) (Y : ab_Y) (R : ab_R) (m : ab_m) (k : ab_sg → ab_rr → ab_Y → ab_R → ab_m → Bool) : Bool :=
  ab_mvs P.2.1 Y R P.2.2.2 us sg rf fun sg rf => ab_mms P.2.1 P.2.2.1 Y R m sg rf fun sg rf Y R m => cond (ab_mb Y sg P.1 sg && (rf.all Option.isSome && Nat.beq rf.length P.2.1.length)) (k sg rf Y R m) false
/-! what comes back -/
def ab_xx (Y : ab_Y) (x : ab_I) (X : ab_X) : Bool := match X with
  | .inl z => ab_sm Y x (.inl z)
  | .inr (.inl (j, b)) => ab_sm Y x (.inr (j, 1, b))
  | .inr (.inr (lo, hi, rel)) => ab_ge Y x (.inl lo) (.ofNat 0) && (ab_le Y x hi && (match rel with
    | none => true
    | some (j, d) => ab_ge Y x (.inr (j, 1, .ofNat 0)) d))
def ab_pm (R : ab_R) : List (Nat × Nat × ab_X) → ab_Y → ab_m → Bool
  | [], _, _ => true
  | (r, x, X) :: t, Y, m => ab_rdi Y R m r (.inl (.ofNat x)) fun v Y m => ab_xx Y v X && ab_pm R t Y m
def ab_pr (Y : ab_Y) (R : ab_R) (p : Option (ab_X ⊕ (Unit ⊕ (Nat × Nat)))) (r : Option ab_V) : Bool := match p, r with
  | none, none => true
  | some (.inl X), some (.inl x) => ab_xx Y x X
  | some (.inr (.inl _)), some (.inr (.inl _)) => true
  | some (.inr (.inr q)), some (.inr (.inr u)) => ab_tg R u fun t n => ab_ts q (t, n)
  | _, _ => false
/-- a number told, in the signs of the caller -/
def ab_xi (sg : ab_sg) (Y : ab_Y) (X : ab_X) (k : ab_I → ab_Y → Bool) : Bool := match X with
  | .inl z => k (.inl z) Y
  | .inr (.inl (j, b)) => match sx_nt sg j with
    | none => false
    | some (.inl z) => sx_fi (z + b) fun z => k (.inl z) Y
    | some (.inr (i, a, q)) => ab_c1 i a (q + b) fun v => k v Y
  | .inr (.inr (lo, hi, none)) => ab_fr Y lo hi [] k
  | .inr (.inr (lo, hi, some (j, d))) => match sx_nt sg j with
    | none => false
    | some (.inl z) => ab_fr Y (ab_mx lo (z + d)) hi [] k
    | some (.inr (i, 1, q)) => sx_fi (q + d) fun d => ab_fr Y lo hi [(i, d)] k
    | some (.inr _) => ab_fr Y lo hi [] k
def ab_pi (sg : ab_sg) (rf : ab_rr) : List (Nat × Nat × ab_X) → ab_Y → ab_m → (ab_Y → ab_m → Bool) → Bool
  | [], Y, m, k => k Y m
  | (r, x, X) :: t, Y, m, k => match sx_nt rf r with
    | none => false
    | some r' => ab_xi sg Y X fun v Y => ab_pi sg rf t Y ((r', .inl (.ofNat x), .inl v) :: m) k
def ab_ri (sg : ab_sg) (Y : ab_Y) (R : ab_R) (p : Option (ab_X ⊕ (Unit ⊕ (Nat × Nat)))) (k : Option ab_V → ab_Y → ab_R → Bool) : Bool := match p with
  | none => k none Y R
  | some (.inl X) => ab_xi sg Y X fun v Y => k (some (.inl v)) Y R
  | some (.inr (.inl _)) => k (some (.inr (.inl ()))) Y R
  | some (.inr (.inr q)) => k (some (.inr (.inr R.length))) Y (R ++ [q])
def ab_kw (W : List (Nat × Nat × Nat)) (Y : ab_Y) (R : ab_R) (m : ab_m) : ab_m := m.filter (fun e => ab_tg R e.1 fun t _ => Nat.blt 1 t && (!Nat.beq t 50 && ab_iv Y e.2.1 fun lo hi => !(W.any (fun q => Nat.beq q.1 t && (sx_le lo (.ofNat q.2.2) && sx_le (.ofNat q.2.1) hi)))))
/-! measures -/
def ab_sv (sg : ab_sg) (x : ab_I) : Option ab_I := match x with
  | .inl z => some (.inl z)
  | .inr (i, a, b) => match sx_nt sg i with
    | none => none
    | some t => some (ab_cp a b t)
def ab_gm (Y : ab_Y) (u : ab_I) (du : Nat) (v : ab_I) (dv : Nat) : Bool := match du, dv with
  | 0, 0 => ab_ge Y u v (.ofNat 1) && ab_ge Y v (.inl (.ofNat 0)) (.ofNat 0)
  | 1, 1 => ab_ge Y v u (.ofNat 1) && ab_le Y u (.ofNat 2147483647)
  | 2, 2 => ab_ge Y u v (.ofNat 1) && ab_ge Y v (.inl (.negSucc 2147483647)) (.ofNat 0)
  | 1, 0 => match v with
    | .inl (.ofNat z) => ab_le Y u (Int.ofNat 2147483647 - Int.ofNat z)
    | _ => false
  | 2, 0 => match v with
    | .inl (.ofNat z) => ab_ge Y u (.inl (Int.ofNat z + Int.negSucc 2147483646)) (.ofNat 0)
    | _ => false
  | 0, 1 => match u with
    | .inl (.ofNat z) => Nat.ble 1 z && ab_ge Y v (.inl (Int.ofNat 2147483649 - Int.ofNat z)) (.ofNat 0)
    | _ => false
  | 0, 2 => match u with
    | .inl (.ofNat z) => Nat.ble 1 z && ab_le Y v (Int.ofNat z - Int.ofNat 2147483649)
    | _ => false
  | _, _ => false
def ab_ld (Y : ab_Y) (sg : ab_sg) : List (ab_I × Nat) → List (ab_I × Nat) → Bool
  | (u, du) :: A, (v, dv) :: B => match ab_sv sg v with
    | none => false
    | some v => cond (ab_gm Y u du v dv) true (cond (Nat.beq du dv && ab_sm Y u v) (ab_ld Y sg A B) false)
  | _, _ => false
/-! calls -/
def ab_cat : List ab_V → Nat
  | [] => 0
  | .inr (.inl _) :: t => 2 + ab_cat t
  | _ :: t => 1 + ab_cat t
def ab_en : List ab_V → Nat → ab_L
  | [], n => List.replicate n none
  | .inr (.inl w) :: t, n => some (.inr (.inl w)) :: none :: ab_en t (n - 2)
  | .inl z :: t, n => some (.inl z) :: ab_en t (n - 1)
  | .inr (.inr r) :: t, n => some (.inr (.inr r)) :: ab_en t (n - 1)
def ab_idr (n : Nat) : Nat → ab_sg
  | 0 => []
  | k + 1 => some (.inr (n, 1, .ofNat 0)) :: ab_idr (n + 1) k
def ab_idq (n : Nat) : Nat → ab_rr
  | 0 => []
  | k + 1 => some n :: ab_idq (n + 1) k
def ab_rk : ab_R → ab_R → Nat → Bool
  | _, _, 0 => true
  | p :: ps, q :: qs, n + 1 => ab_ts p q && ab_rk ps qs n
  | _, _, _ => false
def ab_xk (k : Nat) (X : ab_X) : Bool := match X with
  | .inl _ => true
  | .inr (.inl (j, _)) => Nat.blt j k
  | .inr (.inr (_, _, none)) => true
  | .inr (.inr (_, _, some (j, _))) => Nat.blt j k
def ab_k0 (k : Nat) (p : Option (ab_X ⊕ (Unit ⊕ (Nat × Nat)))) : Bool := match p with
  | some (.inl X) => ab_xk k X
  | _ => true
def ab_pk (c : ab_co) (p : ab_po) : Bool := ab_k0 (ab_p c).1.length p.1 && p.2.all (fun e => Nat.blt e.1 (ab_p c).2.1.length && ab_xk (ab_p c).1.length e.2.2)
/-- an arrival at a cut -/
def ab_arr (c : ab_co) (A : Option (List (ab_I × Nat))) (i : Nat) (L : ab_L) (st : List ab_V) (Y : ab_Y) (R : ab_R) (m : ab_m) : Bool := st.isEmpty && (ab_c c).any (fun b => Nat.beq b.1 i && (ab_rk b.2.1.2.1 R (ab_p c).2.1.length && ab_mt b.2.1 L (ab_idr 0 (ab_p c).1.length ++ List.replicate (b.2.1.1.length - (ab_p c).1.length) none) (ab_idq 0 (ab_p c).2.1.length ++ List.replicate (b.2.1.2.1.length - (ab_p c).2.1.length) none) Y R m fun sg _ Y _ _ => match A with
  | none => true
  | some A => ab_ld Y sg A b.2.2))
def ab_ret (c : ab_co) (K : ab_K) (fs : List ab_F) (Y : ab_Y) (R : ab_R) (m : ab_m) (E : ab_E) (r : Option ab_V) : Bool := match fs with
  | [] => (ab_o c).any (fun p => ab_pk c p && (ab_pr Y R p.1 r && ab_pm R p.2 Y m))
  | (y, d, i, rest, L, st) :: fs => match r with
    | none => K y d i rest L st fs Y R m E
    | some v => K y d i rest L (v :: st) fs Y R m E
def ab_ctr (c : ab_co) (kk : Option ab_V → ab_Y → ab_R → ab_m → Bool) (d : Nat) (Y : ab_Y) (R : ab_R) (m : ab_m) (f : Nat) (av : List ab_V) (q : ab_co) : Bool := Nat.beq (ab_y q) f && (Nat.blt (ab_h q) d && ((ab_w q).all (fun e => ab_cw (ab_w c) e.1 (.ofNat e.2.1) (.ofNat e.2.2)) && ab_mt (ab_p q) (av.map some) (List.replicate (ab_p q).1.length none) (List.replicate (ab_p q).2.1.length none) Y R m fun sg rf Y R m => (ab_o q).all (fun p => ab_pi sg rf p.2 Y (ab_kw (ab_w q) Y R m) fun Y m => ab_ri sg Y R p.1 fun r Y R => kk r Y R m)))
/-- a call: by the contracts of the method, or its code -/
def ab_call (c : ab_co) (id : Nat) (K : ab_K) (y d i : Nat) (rest : List mj_E) (L : ab_L) (st : List ab_V) (fs : List ab_F) (Y : ab_Y) (R : ab_R) (m : ab_m) (E : ab_E) (f : Nat) (av : List ab_V) : Bool := cond (Nat.ble (ab_cat st) 8 && (Nat.beq (mj_tab f).2.2.2.2.2.2.1 0 && (Nat.beq (mj_tab f).2.2.2.2.2.2.2 0 && Nat.ble (ab_cat av) (mj_tab f).2.2.1))) (match ab_by f with
  | [] => match d with
    | 0 => false
    | d + 1 => K f d 0 (ab_full f) (ab_en av (mj_tab f).2.2.1) [] ((y, d + 1, i, rest, L, st) :: fs) Y R m E
  | ids => ids.any (fun j => Nat.blt j id && ab_ctr c (fun r Y R m => match r with
    | none => K y d i rest L st fs Y R m E
    | some v => K y d i rest L (v :: st) fs Y R m E) d Y R m f av (ab_tb j))) false
def ab_swt (Y : ab_Y) (x : ab_I) (lo hi : Int) (k : Nat → ab_Y → Bool) : Int → List Nat → Bool
  | _, [] => true
  | v, t :: ts => cond (sx_le lo v && sx_le v hi) (ab_rf1 .eq Y x v v fun Y => k t Y) true && sx_fi (v + 1) fun v => ab_swt Y x lo hi k v ts
def ab_ldi (L : ab_L) (i : Nat) (k : ab_I → Bool) : Bool := match sx_nt L i with
  | some (.inl z) => k z
  | _ => false
def ab_ldl (L : ab_L) (i : Nat) (k : Bool) : Bool := match sx_nt L i with
  | some (.inr (.inl _)) => k
  | _ => false
def ab_lda (L : ab_L) (i : Nat) (k : Nat → Bool) : Bool := match sx_nt L i with
  | some (.inr (.inr z)) => k z
  | _ => false
def ab_kll (L : ab_L) (i : Nat) : ab_L := match i with
  | 0 => L
  | j + 1 => match sx_nt L j with
    | some (.inr (.inl _)) => L.set j none
    | _ => L
def ab_s1 (L : ab_L) (i : Nat) (v : ab_V) : ab_L := (ab_kll L i).set i (some v)
def ab_s2 (L : ab_L) (i : Nat) (v : ab_V) : ab_L := ((ab_kll L i).set i (some v)).set (i + 1) none
def ab_i1 (st : List ab_V) (k : ab_I → List ab_V → Bool) : Bool := match st with
  | .inl x :: t => k x t
  | _ => false
def ab_l1 (st : List ab_V) (k : List ab_V → Bool) : Bool := match st with
  | .inr (.inl _) :: t => k t
  | _ => false
def ab_r1 (st : List ab_V) (k : Nat → List ab_V → Bool) : Bool := match st with
  | .inr (.inr x) :: t => k x t
  | _ => false
def ab_v1 (st : List ab_V) (k : ab_V → List ab_V → Bool) : Bool := match st with
  | .inl x :: t => k (.inl x) t
  | .inr (.inr x) :: t => k (.inr (.inr x)) t
  | _ => false
def ab_pop : Nat → List ab_V → List ab_V → (List ab_V → List ab_V → Bool) → Bool
  | 0, acc, st, k => k acc st
  | _ + 1, _, [], _ => false
  | n + 1, acc, v :: st, k => ab_pop n (v :: acc) st k
/-- an int of an array's place or a field, split where the contract says so -/
def ab_psh (c : ab_co) (y i : Nat) (Y : ab_Y) (x : ab_I) (k : ab_I → ab_Y → Bool) : Bool := match ab_sl c with
  | [] => k (ab_nr Y x) Y
  | l => cond (l.any (fun q => Nat.beq q.1 y && Nat.beq q.2 i)) (ab_spl Y x fun z Y => k (.inl z) Y) (k (ab_nr Y x) Y)
def ab_bit (Y : ab_Y) (E : ab_E) (st : List ab_V) (an : Bool) (g : Int32 → Int32 → Int32) (k : ab_I → ab_Y → ab_E → List ab_V → Bool) : Bool := ab_i1 st fun y st => ab_i1 st fun x st => ab_iv Y x fun a b => ab_iv Y y fun c d => cond (sx_eq c d) (cond (sx_eq a b) (sx_fi (g (Int32.ofInt a) (Int32.ofInt c)).toInt fun z => k (.inl z) Y E st) (cond (an && (sx_le (.ofNat 0) c && sx_le c (.ofNat 2147483647))) (match E.find? (fun e => ab_ie e.1 x && sx_eq e.2.1 c) with
  | some e => k e.2.2 Y E st
  | none => ab_fr Y (.ofNat 0) c [] fun v Y => k v Y ((x, c, v) :: E) st) (ab_ff Y fun v Y => k v Y E st))) (ab_ff Y fun v Y => k v Y E st)
def ab_un (Y : ab_Y) (st : List ab_V) (ng : Bool) (g : Int32 → Int32) (k : ab_I → ab_Y → List ab_V → Bool) : Bool := ab_i1 st fun x st => ab_iv Y x fun a b => cond (sx_eq a b) (sx_fi (g (Int32.ofInt a)).toInt fun z => k (.inl z) Y st) (cond ng (cond (sx_in (-b) (-a) && sx_in a b) (ab_fr Y (-b) (-a) [] fun v Y => k v Y st) (ab_ff Y fun v Y => k v Y st)) (ab_fr Y (.negSucc 127) (.ofNat 127) [] fun v Y => k v Y st))
def ab_dv (Y : ab_Y) (st : List ab_V) (rm : Bool) (k : ab_I → ab_Y → List ab_V → Bool) : Bool := ab_i1 st fun y st => ab_i1 st fun x st => ab_iv Y x fun a b => ab_iv Y y fun c d => cond (sx_le (.ofNat 1) c && (sx_in a b && sx_in c d)) (cond (sx_le (.ofNat 0) a) (cond rm (ab_fr Y (.ofNat 0) (ab_mn b (d - 1)) [] fun v Y => k v Y st) (ab_fr Y (a / d) (b / c) [] fun v Y => k v Y st)) (cond rm (ab_fr Y (1 - d) (d - 1) [] fun v Y => k v Y st) (ab_ff Y fun v Y => k v Y st))) false
def ab_get (c : ab_co) (y i ci fk : Nat) (st : List ab_V) (Y : ab_Y) (R : ab_R) (m : ab_m) (k : List ab_V → ab_Y → ab_R → ab_m → Bool) : Bool := ab_r1 st fun r st => ab_tg R r fun t _ => cond ((Nat.beq t (1001 + ci) || (Nat.beq t 2010 && Nat.beq ci 9)) && Nat.blt ci 90) (match mj_so ci fk with
  | 0 => ab_rdi Y R m r (.inl (.ofNat fk)) fun v Y m => ab_psh c y i Y v fun v Y => k (.inl v :: st) Y R m
  | 1 => k (.inr (.inl ()) :: st) Y R m
  | _ => ab_rdr Y R m r (.inl (.ofNat fk)) fun u R m => k (.inr (.inr u) :: st) Y R m) false
def ab_gw (fk : Nat) (st : List ab_V) (Y : ab_Y) (R : ab_R) (k : List ab_V → ab_R → Bool) : Bool := ab_r1 st fun r st => ab_tg R r fun t _ => cond (Nat.beq (Nat.mod t 1000) 50) (match fk with
  | 0 => k (.inr (.inl ()) :: st) R
  | _ => cond (Nat.beq t 50) ((List.range 24).all fun q => sx_fi (mj_ww.getD q 0) fun z => sx_fn (900050 + 1000 * q) fun t => k (.inl (.inl z) :: st) (R.set r (t, 0))) (sx_fi (mj_ww.getD ((t - 900050) / 1000) 0) fun z => k (.inl (.inl z) :: st) R)) false
def ab_tf (Y : ab_Y) (x : ab_I) : Bool := ab_iv Y x fun a b => sx_le (.ofNat 0) a && sx_le b (.ofNat 1)
def ab_put (c : ab_co) (ci fk : Nat) (st : List ab_V) (Y : ab_Y) (R : ab_R) (m : ab_m) (k : List ab_V → ab_Y → ab_m → Bool) : Bool := match mj_so ci fk with
  | 0 => ab_i1 st fun z st => ab_r1 st fun r st => ab_tg R r fun t _ => cond (((Nat.beq t (1001 + ci) || (Nat.beq t 2010 && Nat.beq ci 9)) && Nat.blt ci 90) && (!sx_isb (mj_ty ci fk) || ab_tf Y z)) (ab_wri (ab_w c) Y R m r (.inl (.ofNat fk)) z fun Y m => k st Y m) false
  | 1 => ab_l1 st fun st => ab_r1 st fun r st => ab_tg R r fun t _ => cond ((Nat.beq t (1001 + ci) || (Nat.beq t 2010 && Nat.beq ci 9)) && Nat.blt ci 90) (k st Y m) false
  | _ => ab_r1 st fun u st => ab_r1 st fun r st => ab_tg R r fun t _ => cond ((Nat.beq t (1001 + ci) || (Nat.beq t 2010 && Nat.beq ci 9)) && Nat.blt ci 90) (ab_wrr (ab_w c) Y R m r (.inl (.ofNat fk)) u fun Y m => k st Y m) false
/-- a place of an array: the array, its tag, the index -/
def ab_ix (Y : ab_Y) (st : List ab_V) (R : ab_R) (k : Nat → Nat → ab_I → List ab_V → Bool) : Bool := ab_i1 st fun x st => ab_r1 st fun r st => ab_tg R r fun t n => ab_iv Y x fun lo hi => cond (sx_le (.ofNat 0) lo && !sx_le (.ofNat n) hi) (k r t x st) false
def ab_kn (Y : ab_Y) (x : ab_I) (k : Int → Bool) : Bool := ab_iv Y x fun a b => cond (sx_eq a b) (k a) false
/-- every place's bounds of a row that is copied -/
def ab_cpc (t sp t2 dp : Nat) : Nat → Bool
  | 0 => true
  | n + 1 => (sx_le (ab_rg t2 (dp + n)).1 (ab_rg t (sp + n)).1 && sx_le (ab_rg t (sp + n)).2 (ab_rg t2 (dp + n)).2) && ab_cpc t sp t2 dp n
def ab_lib (c : ab_co) (f : Nat) (st : List ab_V) (Y : ab_Y) (R : ab_R) (m : ab_m) (k : List ab_V → ab_Y → ab_m → Bool) : Bool := match f with
  | 0 => ab_i1 st fun y st => ab_i1 st fun x st => cond (Nat.ble (ab_cat st) 8) (cond (ab_ge Y x y (.ofNat 0)) (k (.inl x :: st) Y m) (cond (ab_ge Y y x (.ofNat 0)) (k (.inl y :: st) Y m) (ab_iv Y x fun a b => ab_iv Y y fun c d => ab_fr Y (ab_mx a c) (ab_mx b d) [] fun v Y => k (.inl v :: st) Y m))) false
  | 1 => ab_i1 st fun y st => ab_i1 st fun x st => cond (Nat.ble (ab_cat st) 8) (cond (ab_ge Y y x (.ofNat 0)) (k (.inl x :: st) Y m) (cond (ab_ge Y x y (.ofNat 0)) (k (.inl y :: st) Y m) (ab_iv Y x fun a b => ab_iv Y y fun c d => ab_fr Y (ab_mn a c) (ab_mn b d) [] fun v Y => k (.inl v :: st) Y m))) false
  | 2 => ab_i1 st fun x st => cond (Nat.ble (ab_cat st) 8) (ab_iv Y x fun a b => cond (sx_le (.ofNat 0) a) (k (.inl x :: st) Y m) (cond (sx_le a ab_lo) (ab_ff Y fun v Y => k (.inl v :: st) Y m) (ab_fr Y (cond (sx_le (.ofNat 0) b) (.ofNat 0) (-b)) (ab_mx (-a) b) [] fun v Y => k (.inl v :: st) Y m))) false
  | 3 => ab_i1 st fun n st => ab_i1 st fun dp st => ab_r1 st fun b st => ab_i1 st fun sp st => ab_r1 st fun a st => ab_kn Y n fun n => ab_kn Y dp fun dp => ab_kn Y sp fun sp => ab_tg R a fun ta na => ab_tg R b fun tb nb => cond (Nat.beq (Nat.mod ta 1000) 100 && (Nat.beq (Nat.mod tb 1000) 100 && (Nat.blt tb 900000 && (sx_le (.ofNat 0) sp && (sx_le (.ofNat 0) dp && (sx_le (.ofNat 1) n && (Nat.ble (sp.toNat + n.toNat) na && (Nat.ble (dp.toNat + n.toNat) nb && (Nat.ble (ab_cat st) 8 && (ab_cpc ta sp.toNat tb dp.toNat n.toNat && ab_cw (ab_w c) tb dp (dp + n - 1))))))))))) (k st Y (ab_kw [(tb, dp.toNat, dp.toNat + n.toNat - 1)] Y R m)) false
  | 4 => ab_i1 st fun n st => ab_i1 st fun dp st => ab_r1 st fun b st => ab_i1 st fun sp st => ab_r1 st fun a st => ab_kn Y n fun n => ab_kn Y dp fun dp => ab_kn Y sp fun sp => ab_tg R a fun ta na => ab_tg R b fun tb nb => cond (Nat.beq (Nat.mod ta 1000) 103 && (Nat.beq (Nat.mod tb 1000) 103 && ((Nat.blt tb 900000 && !Nat.beq tb 55103) && (sx_le (.ofNat 0) sp && (sx_le (.ofNat 0) dp && (sx_le (.ofNat 0) n && (Nat.ble (sp.toNat + n.toNat) na && (Nat.ble (dp.toNat + n.toNat) nb && Nat.ble (ab_cat st) 8)))))))) (k st Y m) false
  | _ => false
def ab_aq (cd : ClassFile.ACond) (a b : Bool) : Bool := match cd with
  | .eq => a
  | .ne => b
/-- one instruction -/
def ab_st (c : ab_co) (id : Nat) (K : ab_K) : ab_K := fun y d i rest L st fs Y R m E => match rest with
  | [] => false
  | x :: rest => match x.1 with
    | .iload_n k => ab_ldi L k.val fun v => K y d (Nat.succ i) rest L (.inl (ab_nr Y v) :: st) fs Y R m E
    | .iload k => ab_ldi L k fun v => K y d (Nat.succ i) rest L (.inl (ab_nr Y v) :: st) fs Y R m E
    | .lload_n k => ab_ldl L k.val (K y d (Nat.succ i) rest L (.inr (.inl ()) :: st) fs Y R m E)
    | .lload k => ab_ldl L k (K y d (Nat.succ i) rest L (.inr (.inl ()) :: st) fs Y R m E)
    | .aload_n k => ab_lda L k.val fun v => K y d (Nat.succ i) rest L (.inr (.inr v) :: st) fs Y R m E
    | .aload k => ab_lda L k fun v => K y d (Nat.succ i) rest L (.inr (.inr v) :: st) fs Y R m E
    | .istore_n k => ab_i1 st fun z st => K y d (Nat.succ i) rest (ab_s1 L k.val (.inl z)) st fs Y R m E
    | .istore k => ab_i1 st fun z st => K y d (Nat.succ i) rest (ab_s1 L k (.inl z)) st fs Y R m E
    | .lstore_n k => ab_l1 st fun st => K y d (Nat.succ i) rest (ab_s2 L k.val (.inr (.inl ()))) st fs Y R m E
    | .lstore k => ab_l1 st fun st => K y d (Nat.succ i) rest (ab_s2 L k (.inr (.inl ()))) st fs Y R m E
    | .astore_n k => ab_r1 st fun z st => K y d (Nat.succ i) rest (ab_s1 L k.val (.inr (.inr z))) st fs Y R m E
    | .astore k => ab_r1 st fun z st => K y d (Nat.succ i) rest (ab_s1 L k (.inr (.inr z))) st fs Y R m E
    | .iinc k z => ab_ldi L k fun v => ab_add Y v (.inl z) fun v Y => K y d (Nat.succ i) rest (ab_s1 L k (.inl v)) st fs Y R m E
    | .iconst z => K y d (Nat.succ i) rest L (.inl (.inl z) :: st) fs Y R m E
    | .bipush z => K y d (Nat.succ i) rest L (.inl (.inl z) :: st) fs Y R m E
    | .sipush z => K y d (Nat.succ i) rest L (.inl (.inl z) :: st) fs Y R m E
    | .ldc _ => K y d (Nat.succ i) rest L (.inl (.inl x.2.2.2) :: st) fs Y R m E
    | .ldc_w _ => K y d (Nat.succ i) rest L (.inl (.inl x.2.2.2) :: st) fs Y R m E
    | .ldc2_w _ => K y d (Nat.succ i) rest L (.inr (.inl ()) :: st) fs Y R m E
    | .lconst _ => K y d (Nat.succ i) rest L (.inr (.inl ()) :: st) fs Y R m E
    | .aconst_null => K y d (Nat.succ i) rest L (.inr (.inr R.length) :: st) fs Y (R ++ [(1, 0)]) m E
    | .iadd => ab_i1 st fun v st => ab_i1 st fun u st => ab_add Y u v fun w Y => K y d (Nat.succ i) rest L (.inl w :: st) fs Y R m E
    | .isub => ab_i1 st fun v st => ab_i1 st fun u st => ab_sub Y u v fun w Y => K y d (Nat.succ i) rest L (.inl w :: st) fs Y R m E
    | .imul => ab_i1 st fun v st => ab_i1 st fun u st => ab_mul Y u v fun w Y => K y d (Nat.succ i) rest L (.inl w :: st) fs Y R m E
    | .idiv => ab_dv Y st false fun w Y st => K y d (Nat.succ i) rest L (.inl w :: st) fs Y R m E
    | .irem => ab_dv Y st true fun w Y st => K y d (Nat.succ i) rest L (.inl w :: st) fs Y R m E
    | .iand => ab_bit Y E st true (fun x y => x &&& y) fun v Y E st => K y d (Nat.succ i) rest L (.inl v :: st) fs Y R m E
    | .ior => ab_bit Y E st false (fun x y => x ||| y) fun v Y E st => K y d (Nat.succ i) rest L (.inl v :: st) fs Y R m E
    | .ishl => ab_bit Y E st false (fun x y => x <<< (y &&& 31)) fun v Y E st => K y d (Nat.succ i) rest L (.inl v :: st) fs Y R m E
    | .ishr => ab_bit Y E st false (fun x y => x >>> (y &&& 31)) fun v Y E st => K y d (Nat.succ i) rest L (.inl v :: st) fs Y R m E
    | .iushr => ab_bit Y E st false (fun x y => (x.toUInt32 >>> (y.toUInt32 &&& Int32.toUInt32 31)).toInt32) fun v Y E st => K y d (Nat.succ i) rest L (.inl v :: st) fs Y R m E
    | .ineg => ab_un Y st true (fun x => -x) fun v Y st => K y d (Nat.succ i) rest L (.inl v :: st) fs Y R m E
    | .i2b => ab_un Y st false (fun x => x.toInt8.toInt32) fun v Y st => K y d (Nat.succ i) rest L (.inl v :: st) fs Y R m E
    | .lor => ab_l1 st fun st => ab_l1 st fun st => K y d (Nat.succ i) rest L (.inr (.inl ()) :: st) fs Y R m E
    | .land => ab_l1 st fun st => ab_l1 st fun st => K y d (Nat.succ i) rest L (.inr (.inl ()) :: st) fs Y R m E
    | .lshl => ab_i1 st fun _ st => ab_l1 st fun st => K y d (Nat.succ i) rest L (.inr (.inl ()) :: st) fs Y R m E
    | .lshr => ab_i1 st fun _ st => ab_l1 st fun st => K y d (Nat.succ i) rest L (.inr (.inl ()) :: st) fs Y R m E
    | .lcmp => ab_l1 st fun st => ab_l1 st fun st => ab_fr Y (.negSucc 0) (.ofNat 1) [] fun v Y => K y d (Nat.succ i) rest L (.inl v :: st) fs Y R m E
    | .i2l => ab_i1 st fun _ st => K y d (Nat.succ i) rest L (.inr (.inl ()) :: st) fs Y R m E
    | .l2i => ab_l1 st fun st => ab_ff Y fun v Y => K y d (Nat.succ i) rest L (.inl v :: st) fs Y R m E
    | .dup => ab_v1 st fun v st => K y d (Nat.succ i) rest L (v :: v :: st) fs Y R m E
    | .dup2 => ab_v1 st fun v st => ab_v1 st fun w st => K y d (Nat.succ i) rest L (v :: w :: v :: w :: st) fs Y R m E
    | .pop => ab_v1 st fun _ st => K y d (Nat.succ i) rest L st fs Y R m E
    | .ifCond cd _ => ab_i1 st fun z st => ab_br cd Y z (.inl (.ofNat 0)) (fun Y => K y d (mj_hd x.2.2.1) ((ab_full y).drop (mj_hd x.2.2.1)) L st fs Y R m E) (fun Y => K y d (Nat.succ i) rest L st fs Y R m E)
    | .if_icmp cd _ => ab_i1 st fun v st => ab_i1 st fun z st => ab_br cd Y z v (fun Y => K y d (mj_hd x.2.2.1) ((ab_full y).drop (mj_hd x.2.2.1)) L st fs Y R m E) (fun Y => K y d (Nat.succ i) rest L st fs Y R m E)
    | .ifnull _ => ab_r1 st fun z st => ab_tg R z fun t _ => cond (Nat.beq t 0 || Nat.beq t 1) (K y d (mj_hd x.2.2.1) ((ab_full y).drop (mj_hd x.2.2.1)) L st fs Y (cond (Nat.beq t 0) (R.set z (1, 0)) R) m E) true && cond (Nat.beq t 1) true (K y d (Nat.succ i) rest L st fs Y (cond (Nat.beq t 0) (R.set z (50, 0)) R) m E)
    | .ifnonnull _ => ab_r1 st fun z st => ab_tg R z fun t _ => cond (Nat.beq t 1) true (K y d (mj_hd x.2.2.1) ((ab_full y).drop (mj_hd x.2.2.1)) L st fs Y (cond (Nat.beq t 0) (R.set z (50, 0)) R) m E) && cond (Nat.beq t 0 || Nat.beq t 1) (K y d (Nat.succ i) rest L st fs Y (cond (Nat.beq t 0) (R.set z (1, 0)) R) m E) true
    | .if_acmp cd _ => ab_r1 st fun b st => ab_r1 st fun a st => ab_tg R a fun ta na => ab_tg R b fun tb nb => cond (Nat.ble 900000 tb && (Nat.beq (Nat.mod tb 1000) 50 && Nat.beq nb 0)) (cond (Nat.beq ta tb && Nat.beq na 0) (ab_aq cd (K y d (mj_hd x.2.2.1) ((ab_full y).drop (mj_hd x.2.2.1)) L st fs Y R m E) (K y d (Nat.succ i) rest L st fs Y R m E)) (cond (Nat.beq ta 0 || Nat.beq ta 50) (ab_aq cd (K y d (mj_hd x.2.2.1) ((ab_full y).drop (mj_hd x.2.2.1)) L st fs Y (R.set a (tb, 0)) m E && K y d (Nat.succ i) rest L st fs Y R m E) (K y d (mj_hd x.2.2.1) ((ab_full y).drop (mj_hd x.2.2.1)) L st fs Y R m E && K y d (Nat.succ i) rest L st fs Y (R.set a (tb, 0)) m E)) (cond (Nat.beq ta 1 || Nat.ble 900000 ta && Nat.beq (Nat.mod ta 1000) 50) (ab_aq cd (K y d (Nat.succ i) rest L st fs Y R m E) (K y d (mj_hd x.2.2.1) ((ab_full y).drop (mj_hd x.2.2.1)) L st fs Y R m E)) false))) false
    | .goto _ => K y d (mj_hd x.2.2.1) ((ab_full y).drop (mj_hd x.2.2.1)) L st fs Y R m E
    | .getstatic _ => !x.2.2.1.isEmpty && K y d (Nat.succ i) rest L (.inr (.inr R.length) :: st) fs Y (R ++ [mj_wt (mj_hd x.2.2.1)]) m E
    | .getfield _ => !x.2.2.1.isEmpty && cond (Nat.beq (mj_hd x.2.2.1) 49) (ab_gw (mj_h1 x.2.2.1) st Y R fun st R => K y d (Nat.succ i) rest L st fs Y R m E) (ab_get c y i (mj_hd x.2.2.1) (mj_h1 x.2.2.1) st Y R m fun st Y R m => K y d (Nat.succ i) rest L st fs Y R m E)
    | .putfield _ => !x.2.2.1.isEmpty && ab_put c (mj_hd x.2.2.1) (mj_h1 x.2.2.1) st Y R m fun st Y m => K y d (Nat.succ i) rest L st fs Y R m E
    | .iaload => ab_ix Y st R fun r t x st => cond (Nat.beq (Nat.mod t 1000) 100) (ab_rdi Y R m r x fun v Y m => ab_psh c y i Y v fun v Y => K y d (Nat.succ i) rest L (.inl v :: st) fs Y R m E) false
    | .baload => ab_ix Y st R fun r t x st => cond (Nat.beq (Nat.mod t 1000) 101 || Nat.beq (Nat.mod t 1000) 102) (ab_rdi Y R m r x fun v Y m => K y d (Nat.succ i) rest L (.inl v :: st) fs Y R m E) false
    | .laload => ab_ix Y st R fun _ t _ st => cond (Nat.beq (Nat.mod t 1000) 103) (K y d (Nat.succ i) rest L (.inr (.inl ()) :: st) fs Y R m E) false
    | .aaload => ab_ix Y st R fun r t v st => cond (Nat.beq (Nat.mod t 1000) (100 + mj_hd x.2.2.1)) (ab_rdr Y R m r v fun u R m => K y d (Nat.succ i) rest L (.inr (.inr u) :: st) fs Y R m E) false
    | .iastore => ab_i1 st fun z st => ab_ix Y st R fun r t x st => cond (Nat.beq (Nat.mod t 1000) 100) (ab_wri (ab_w c) Y R m r x z fun Y m => K y d (Nat.succ i) rest L st fs Y R m E) false
    | .bastore => ab_i1 st fun z st => ab_ix Y st R fun r t x st => cond (Nat.beq (Nat.mod t 1000) 101) (ab_iv Y z fun a b => cond (sx_le (.negSucc 127) a && sx_le b (.ofNat 127)) (ab_wri (ab_w c) Y R m r x z fun Y m => K y d (Nat.succ i) rest L st fs Y R m E) (ab_fr Y (.negSucc 127) (.ofNat 127) [] fun z Y => ab_wri (ab_w c) Y R m r x z fun Y m => K y d (Nat.succ i) rest L st fs Y R m E)) (cond (Nat.beq (Nat.mod t 1000) 102 && ab_tf Y z) (ab_wri (ab_w c) Y R m r x z fun Y m => K y d (Nat.succ i) rest L st fs Y R m E) false)
    | .lastore => ab_l1 st fun st => ab_ix Y st R fun _ t _ st => cond (Nat.beq (Nat.mod t 1000) 103 && (Nat.blt t 900000 && !Nat.beq t 55103)) (K y d (Nat.succ i) rest L st fs Y R m E) false
    | .aastore => ab_r1 st fun u st => ab_ix Y st R fun r t v st => cond (Nat.beq (Nat.mod t 1000) (100 + mj_hd x.2.2.1) && (Nat.beq (mj_hd x.2.2.1) 5 || Nat.beq (mj_hd x.2.2.1) 6)) (ab_tg R u fun tu _ => cond (Nat.beq tu 0 || (Nat.beq tu 1 || (Nat.beq (mj_hd x.2.2.1) 5 && Nat.beq (Nat.mod tu 1000) 50 || Nat.beq (mj_hd x.2.2.1) 6 && Nat.beq (Nat.mod tu 1000) 7))) (cond (Nat.beq tu 0 && !Nat.beq (mj_hd x.2.2.1) 5) false (ab_wrr (ab_w c) Y R m r v u fun Y m => K y d (Nat.succ i) rest L st fs Y R m E)) false) false
    | .tableswitch _ lo hi _ => ab_i1 st fun z st => ab_iv Y z fun a b => (cond (sx_le lo a) true (ab_rf1 .lt Y z lo lo fun Y => K y d (mj_hd x.2.2.1) ((ab_full y).drop (mj_hd x.2.2.1)) L st fs Y R m E) && cond (sx_le b hi) true (ab_rf1 .gt Y z hi hi fun Y => K y d (mj_hd x.2.2.1) ((ab_full y).drop (mj_hd x.2.2.1)) L st fs Y R m E)) && ab_swt Y z a b (fun t Y => K y d t ((ab_full y).drop t) L st fs Y R m E) lo (x.2.2.1.drop 1)
    | .arraylength => ab_r1 st fun r st => ab_tg R r fun t n => cond (Nat.ble 100 (Nat.mod t 1000) && (Nat.blt (Nat.mod t 1000) 107 && Nat.ble n 4096)) (K y d (Nat.succ i) rest L (.inl (.inl (.ofNat n)) :: st) fs Y R m E) false
    | .invokevirtual _ => !x.2.2.1.isEmpty && ab_pop (mj_h1 x.2.2.1) [] st fun As st => ab_r1 st fun a st => ab_tg R a fun t _ => cond (Nat.beq (Nat.mod t 1000) (mj_h2 x.2.2.1 + 1) && !Nat.beq t 1) (ab_call c id K y d (Nat.succ i) rest L st fs Y R m E (mj_hd x.2.2.1) (.inr (.inr a) :: As)) false
    | .invokestatic _ => match x.2.2.1 with
      | [] => false
      | [f, _] => ab_lib c f st Y R m fun st Y m => K y d (Nat.succ i) rest L st fs Y R m E
      | _ => ab_pop (mj_h1 x.2.2.1) [] st fun As st => ab_call c id K y d (Nat.succ i) rest L st fs Y R m E (mj_hd x.2.2.1) As
    | .invokespecial _ => match x.2.2.1 with
      | [] => false
      | f :: _ => ab_pop (mj_h1 x.2.2.1) [] st fun As st => ab_r1 st fun a st => ab_tg R a fun t _ => cond (Nat.beq (Nat.mod t 1000) (mj_h2 x.2.2.1 + 1) && !Nat.beq t 1) (ab_call c id K y d (Nat.succ i) rest L st fs Y R m E f (.inr (.inr a) :: As)) false
    | .ireturn => ab_i1 st fun z st => st.isEmpty && cond (sx_eq x.2.2.2 (.ofNat 1)) (ab_tf Y z && ab_spl Y z fun z Y => ab_ret c K fs Y R m E (some (.inl (.inl z)))) (ab_ret c K fs Y R m E (some (.inl z)))
    | .areturn => ab_r1 st fun z st => st.isEmpty && ab_ret c K fs Y R m E (some (.inr (.inr z)))
    | .return_ => st.isEmpty && ab_ret c K fs Y R m E none
    | _ => false
/-- a cut ends the run -/
def ab_sp (c : ab_co) (A : Option (List (ab_I × Nat))) (K : ab_K) : ab_K := fun y d i rest L st fs Y R m E => match fs with
  | [] => cond ((ab_c c).any (fun b => Nat.beq b.1 i)) (ab_arr c A i L st Y R m) (K y d i rest L st [] Y R m E)
  | f :: fs => K y d i rest L st (f :: fs) Y R m E
noncomputable def ab_ex (c : ab_co) (id : Nat) (A : Option (List (ab_I × Nat))) (n : Nat) : ab_K := Nat.rec (motive := fun _ => ab_K) (fun _ _ _ _ _ _ _ _ _ _ _ => false) (fun _ ih => ab_sp c A (ab_st c id ih)) n
def ab_mk (m : List (Nat × Nat × ab_V)) : ab_m := m.map (fun e => (e.1, .inl (.ofNat e.2.1), e.2.2))
def ab_dv1 (L : ab_L) : List ab_V := L.filterMap (fun v => v)
/-- the run from the entry -/
noncomputable def ab_ce (c : ab_co) (id : Nat) : Bool := Nat.ble (ab_cat (ab_dv1 (ab_p c).2.2.2)) (mj_tab (ab_y c)).2.2.1 && ab_st c id (ab_ex c id none 8000) (ab_y c) (ab_h c) 0 (ab_full (ab_y c)) (ab_en (ab_dv1 (ab_p c).2.2.2) (mj_tab (ab_y c)).2.2.1) [] [] (ab_p c).1 (ab_p c).2.1 (ab_mk (ab_p c).2.2.1) []
/-- the run from the cut b -/
noncomputable def ab_cc (c : ab_co) (id : Nat) (b : ab_cu) : Bool := (b.2.2.all (fun q => match q.1 with
  | .inl _ => true
  | .inr (i, _, _) => Nat.blt i b.2.1.1.length) && (ab_c c).all (fun b' => Nat.beq b'.2.2.length b.2.2.length)) && ab_st c id (ab_ex c id (some b.2.2) 8000) (ab_y c) (ab_h c) b.1 ((ab_full (ab_y c)).drop b.1) b.2.1.2.2.2 [] [] b.2.1.1 b.2.1.2.1 (ab_mk b.2.1.2.2.1) []
end
section
/-! ===== what the abstract run says, the small machine does: worlds, values, numbers ===== -/
abbrev ab_wd : Type := Nat × (Nat → Int) × Nat × (Nat → Option Nat)
def ab_up (w w' : ab_wd) : Prop := w.1 ≤ w'.1 ∧ (∀ i, i < w.1 → w'.2.1 i = w.2.1 i) ∧ w.2.2.1 ≤ w'.2.2.1 ∧ ∀ i, i < w.2.2.1 → w'.2.2.2 i = w.2.2.2 i
theorem ab_up.rf {w : ab_wd} : ab_up w w := ⟨Nat.le_refl _, fun _ _ => rfl, Nat.le_refl _, fun _ _ => rfl⟩
theorem ab_up.tr {w w' w'' : ab_wd} (h : ab_up w w') (h' : ab_up w' w'') : ab_up w w'' :=
  ⟨Nat.le_trans h.1 h'.1, fun i hi => (h'.2.1 i (Nat.lt_of_lt_of_le hi h.1)).trans (h.2.1 i hi), Nat.le_trans h.2.2.1 h'.2.2.1, fun i hi => (h'.2.2.2 i (Nat.lt_of_lt_of_le hi h.2.2.1)).trans (h.2.2.2 i hi)⟩
def ab_RI (w : ab_wd) (x : ab_I) (z : Int) : Prop := match x with
  | .inl y => y = z
  | .inr (i, a, b) => i < w.1 ∧ Int.ofNat a * w.2.1 i + b = z
def ab_RV (w : ab_wd) (x : ab_V) (v : mj_V) : Prop := match x with
  | .inl x => ∃ z, v = .inl z ∧ ab_RI w x z
  | .inr (.inl _) => ∃ z, v = .inr (.inl z)
  | .inr (.inr j) => j < w.2.2.1 ∧ v = .inr (.inr (w.2.2.2 j))
def ab_RS (w : ab_wd) : List ab_V → List mj_V → Prop
  | [], t => t = []
  | x :: s, t => ∃ v t', t = v :: t' ∧ ab_RV w x v ∧ ab_RS w s t'
def ab_RL (w : ab_wd) : ab_L → mj_L → Prop
  | [], L => L = []
  | none :: s, L => ∃ v L', L = v :: L' ∧ ab_RL w s L'
  | some x :: s, L => ∃ v L', L = some v :: L' ∧ ab_RV w x v ∧ ab_RL w s L'
def ab_q1 (w : ab_wd) (i : Nat) (q : ab_S) : Prop := q.1 ≤ w.2.1 i ∧ w.2.1 i ≤ q.2.1 ∧ ∀ r ∈ q.2.2, r.1 < w.1 ∧ w.2.1 r.1 + r.2 ≤ w.2.1 i
def ab_RY (w : ab_wd) (Y : ab_Y) : Prop := w.1 = Y.length ∧ ∀ i q, ab_ny Y i = some q → ab_q1 w i q
def ab_rt (G : mj_G) (q : Nat × Nat) (o : Option Nat) : Prop := (q.1 = 0 ∧ (o = none ∨ ∃ a, o = some a ∧ (G a).1 % 1000 = 50)) ∨ (q.1 = 1 ∧ o = none) ∨ (q.1 = 50 ∧ ∃ a, o = some a ∧ (G a).1 % 1000 = 50) ∨ (q.1 ≠ 0 ∧ q.1 ≠ 1 ∧ q.1 ≠ 50 ∧ ∃ a, o = some a ∧ G a = q)
def ab_RR (w : ab_wd) (G : mj_G) (R : ab_R) : Prop := w.2.2.1 = R.length ∧ ∀ i q, ab_nR R i = some q → ab_rt G q (w.2.2.2 i)
def ab_hv (w : ab_wd) (M : mj_M) (a k : Nat) (v : ab_V) : Prop := match v with
  | .inl x => ab_RI w x (M.1 a k)
  | .inr (.inl _) => True
  | .inr (.inr j) => j < w.2.2.1 ∧ M.2.2 a k = w.2.2.2 j
def ab_e1 (w : ab_wd) (M : mj_M) (e : Nat × ab_I × ab_V) : Prop := e.1 < w.2.2.1 ∧ ∃ a z, w.2.2.2 e.1 = some a ∧ ab_RI w e.2.1 z ∧ 0 ≤ z ∧ ab_hv w M a z.toNat e.2.2
def ab_RM (w : ab_wd) (M : mj_M) (m : ab_m) : Prop := ∀ e ∈ m, ab_e1 w M e
def ab_RE (w : ab_wd) (E : ab_E) : Prop := ∀ e ∈ E, ∃ z, ab_RI w e.1 z ∧ ab_RI w e.2.2 (Int32.ofInt z &&& Int32.ofInt e.2.1).toInt
theorem ab_RI.up {w w' : ab_wd} {x : ab_I} {z : Int} (u : ab_up w w') (h : ab_RI w x z) : ab_RI w' x z := by
  rcases x with y | ⟨i, a, b⟩
  · exact h
  · exact ⟨Nat.lt_of_lt_of_le h.1 u.1, by rw [u.2.1 i h.1]; exact h.2⟩
theorem ab_RI.fn {w : ab_wd} {x : ab_I} {z z' : Int} (h : ab_RI w x z) (h' : ab_RI w x z') : z = z' := by
  rcases x with y | ⟨i, a, b⟩
  · exact (show y = z from h).symm.trans h'
  · exact h.2.symm.trans h'.2
theorem ab_RV.up {w w' : ab_wd} {x : ab_V} {v : mj_V} (u : ab_up w w') (h : ab_RV w x v) : ab_RV w' x v := by
  rcases x with x | x | j
  · obtain ⟨z, h1, h2⟩ := h; exact ⟨z, h1, h2.up u⟩
  · exact h
  · exact ⟨Nat.lt_of_lt_of_le h.1 u.2.2.1, by rw [u.2.2.2 j h.1]; exact h.2⟩
theorem ab_RS.up {w w' : ab_wd} (u : ab_up w w') : ∀ {s : List ab_V} {t : List mj_V}, ab_RS w s t → ab_RS w' s t
  | [], _, h => h
  | _ :: _, _, h => by
    obtain ⟨v, t', h1, h2, h3⟩ := h
    exact ⟨v, t', h1, h2.up u, h3.up u⟩
theorem ab_RL.up {w w' : ab_wd} (u : ab_up w w') : ∀ {s : ab_L} {t : mj_L}, ab_RL w s t → ab_RL w' s t
  | [], _, h => h
  | none :: _, _, h => by
    obtain ⟨v, t', h1, h3⟩ := h
    exact ⟨v, t', h1, h3.up u⟩
  | some _ :: _, _, h => by
    obtain ⟨v, t', h1, h2, h3⟩ := h
    exact ⟨v, t', h1, h2.up u, h3.up u⟩
theorem ab_hv.up {w w' : ab_wd} {M : mj_M} {a k : Nat} {v : ab_V} (u : ab_up w w') (h : ab_hv w M a k v) : ab_hv w' M a k v := by
  rcases v with x | x | j
  · exact ab_RI.up (x := x) u h
  · trivial
  · exact ⟨Nat.lt_of_lt_of_le h.1 u.2.2.1, by rw [u.2.2.2 j h.1]; exact h.2⟩
theorem ab_e1.up {w w' : ab_wd} {M : mj_M} {e : Nat × ab_I × ab_V} (u : ab_up w w') (h : ab_e1 w M e) : ab_e1 w' M e := by
  obtain ⟨h0, a, z, h1, h2, h4, h3⟩ := h
  exact ⟨Nat.lt_of_lt_of_le h0 u.2.2.1, a, z, by rw [u.2.2.2 _ h0]; exact h1, h2.up u, h4, h3.up u⟩
theorem ab_RM.up {w w' : ab_wd} {M : mj_M} {m : ab_m} (u : ab_up w w') (h : ab_RM w M m) : ab_RM w' M m := fun e he => (h e he).up u
theorem ab_RE.up {w w' : ab_wd} {E : ab_E} (u : ab_up w w') (h : ab_RE w E) : ab_RE w' E := fun e he => by
  obtain ⟨z, h1, h2⟩ := h e he
  exact ⟨z, h1.up u, h2.up u⟩
/-- the signs grow, the references stay -/
def ab_ey (w w' : ab_wd) : Prop := ab_up w w' ∧ w'.2.2 = w.2.2
theorem ab_ey.rf {w : ab_wd} : ab_ey w w := ⟨ab_up.rf, rfl⟩
theorem ab_ey.tr {w w' w'' : ab_wd} (h : ab_ey w w') (h' : ab_ey w' w'') : ab_ey w w'' := ⟨h.1.tr h'.1, h'.2.trans h.2⟩
theorem ab_RR.ey {w w' : ab_wd} {G : mj_G} {R : ab_R} (u : ab_ey w w') (h : ab_RR w G R) : ab_RR w' G R := by
  unfold ab_RR
  rw [u.2]
  exact h
/-- the references grow, the signs stay -/
def ab_er (w w' : ab_wd) : Prop := ab_up w w' ∧ w'.1 = w.1 ∧ w'.2.1 = w.2.1
theorem ab_er.rf {w : ab_wd} : ab_er w w := ⟨ab_up.rf, rfl, rfl⟩
theorem ab_RY.er {w w' : ab_wd} {Y : ab_Y} (u : ab_er w w') (h : ab_RY w Y) : ab_RY w' Y := by
  unfold ab_RY ab_q1
  rw [u.2.1, u.2.2]
  exact h
theorem ab_nR_lt : ∀ {R : ab_R} {i : Nat} {q : Nat × Nat}, ab_nR R i = some q → i < R.length
  | [], _, _, h => by cases h
  | _ :: _, 0, _, _ => Nat.succ_pos _
  | _ :: _, _ + 1, _, h => Nat.succ_lt_succ (ab_nR_lt (R := _) h)
theorem ab_ny_lt : ∀ {Y : ab_Y} {i : Nat} {q : ab_S}, ab_ny Y i = some q → i < Y.length
  | [], _, _, h => by cases h
  | _ :: _, 0, _, _ => Nat.succ_pos _
  | _ :: _, _ + 1, _, h => Nat.succ_lt_succ (ab_ny_lt (Y := _) h)
theorem ab_ny_app : ∀ (Y : ab_Y) (q : ab_S) (i : Nat) (r : ab_S), ab_ny (Y ++ [q]) i = some r → (i = Y.length ∧ r = q) ∨ ab_ny Y i = some r
  | [], q, 0, r, h => Or.inl ⟨rfl, (Option.some.inj h).symm⟩
  | [], q, i + 1, r, h => by cases h
  | x :: t, q, 0, r, h => Or.inr h
  | x :: t, q, i + 1, r, h => by
    rcases ab_ny_app t q i r h with ⟨h1, h2⟩ | h1
    · exact Or.inl ⟨by rw [h1]; rfl, h2⟩
    · exact Or.inr h1
theorem ab_ny_set : ∀ (Y : ab_Y) (j : Nat) (q : ab_S) (i : Nat) (r : ab_S), ab_ny (Y.set j q) i = some r → (i = j ∧ r = q) ∨ ab_ny Y i = some r
  | [], _, _, _, _, h => by cases h
  | x :: t, 0, q, 0, r, h => Or.inl ⟨rfl, (Option.some.inj h).symm⟩
  | x :: t, 0, q, i + 1, r, h => Or.inr h
  | x :: t, j + 1, q, 0, r, h => Or.inr h
  | x :: t, j + 1, q, i + 1, r, h => by
    rcases ab_ny_set t j q i r h with ⟨h1, h2⟩ | h1
    · exact Or.inl ⟨by rw [h1], h2⟩
    · exact Or.inr h1
theorem ab_nR_app : ∀ (Y : ab_R) (q : Nat × Nat) (i : Nat) (r : Nat × Nat), ab_nR (Y ++ [q]) i = some r → (i = Y.length ∧ r = q) ∨ ab_nR Y i = some r
  | [], q, 0, r, h => Or.inl ⟨rfl, (Option.some.inj h).symm⟩
  | [], q, i + 1, r, h => by cases h
  | x :: t, q, 0, r, h => Or.inr h
  | x :: t, q, i + 1, r, h => by
    rcases ab_nR_app t q i r h with ⟨h1, h2⟩ | h1
    · exact Or.inl ⟨by rw [h1]; rfl, h2⟩
    · exact Or.inr h1
theorem ab_nR_set : ∀ (Y : ab_R) (j : Nat) (q : Nat × Nat) (i : Nat) (r : Nat × Nat), ab_nR (Y.set j q) i = some r → (i = j ∧ r = q) ∨ ab_nR Y i = some r
  | [], _, _, _, _, h => by cases h
  | x :: t, 0, q, 0, r, h => Or.inl ⟨rfl, (Option.some.inj h).symm⟩
  | x :: t, 0, q, i + 1, r, h => Or.inr h
  | x :: t, j + 1, q, 0, r, h => Or.inr h
  | x :: t, j + 1, q, i + 1, r, h => by
    rcases ab_nR_set t j q i r h with ⟨h1, h2⟩ | h1
    · exact Or.inl ⟨by rw [h1], h2⟩
    · exact Or.inr h1
theorem ab_RY.set {w : ab_wd} {Y : ab_Y} (hY : ab_RY w Y) {i : Nat} {q : ab_S} (h : ab_q1 w i q) : ab_RY w (Y.set i q) := by
  refine ⟨by rw [List.length_set]; exact hY.1, fun j r hr => ?_⟩
  rcases ab_ny_set Y i q j r hr with ⟨h1, h2⟩ | h1
  · rw [h1, h2]; exact h
  · exact hY.2 j r h1
theorem ab_RR.set {w : ab_wd} {G : mj_G} {R : ab_R} (hR : ab_RR w G R) {i : Nat} {q : Nat × Nat} (h : ab_rt G q (w.2.2.2 i)) : ab_RR w G (R.set i q) := by
  refine ⟨by rw [List.length_set]; exact hR.1, fun j r hr => ?_⟩
  rcases ab_nR_set R i q j r hr with ⟨h1, h2⟩ | h1
  · rw [h1, h2]; exact h
  · exact hR.2 j r h1
/-! numbers -/
theorem ab_mn_s (x y : Int) : ab_mn x y ≤ x ∧ ab_mn x y ≤ y := by
  unfold ab_mn
  cases e : sx_le x y with
  | true => have := sx_le_iff.mp e; simp only [cond_true]; omega
  | false => have := sx_le_no (x := x) (y := y) (by rw [e]; exact Bool.false_ne_true); simp only [cond_false]; omega
theorem ab_mx_s (x y : Int) : x ≤ ab_mx x y ∧ y ≤ ab_mx x y := by
  unfold ab_mx
  cases e : sx_le x y with
  | true => have := sx_le_iff.mp e; simp only [cond_true]; omega
  | false => have := sx_le_no (x := x) (y := y) (by rw [e]; exact Bool.false_ne_true); simp only [cond_false]; omega
theorem ab_mn_or (x y : Int) : ab_mn x y = x ∨ ab_mn x y = y := by
  unfold ab_mn
  cases sx_le x y <;> simp
theorem ab_mx_or (x y : Int) : ab_mx x y = x ∨ ab_mx x y = y := by
  unfold ab_mx
  cases sx_le x y <;> simp
theorem ab_ml {a : Nat} {x y : Int} (h : x ≤ y) : Int.ofNat a * x ≤ Int.ofNat a * y := Int.mul_le_mul_of_nonneg_left h (Int.natCast_nonneg a)
theorem ab_iv_s {Y : ab_Y} {x : ab_I} {k : Int → Int → Bool} {w : ab_wd} {z : Int} (h : ab_iv Y x k = true) (hY : ab_RY w Y) (hx : ab_RI w x z) : ∃ lo hi, k lo hi = true ∧ lo ≤ z ∧ z ≤ hi := by
  rcases x with y | ⟨i, a, b⟩
  · have e : y = z := hx
    exact ⟨y, y, h, by omega, by omega⟩
  · unfold ab_iv at h
    dsimp only at h
    cases hq : ab_ny Y i with
    | none => rw [hq] at h; cases h
    | some q =>
      rw [hq] at h
      dsimp only at h
      rw [sx_fi_eq, sx_fi_eq] at h
      obtain ⟨b1, b2, -⟩ := hY.2 i q hq
      have m1 := ab_ml (a := a) b1
      have m2 := ab_ml (a := a) b2
      have e := hx.2
      exact ⟨_, _, h, by omega, by omega⟩
theorem ab_nr_s {Y : ab_Y} {x : ab_I} {w : ab_wd} {z : Int} (hY : ab_RY w Y) (hx : ab_RI w x z) : ab_RI w (ab_nr Y x) z := by
  rcases x with y | ⟨i, a, b⟩
  · exact hx
  · unfold ab_nr
    dsimp only
    cases hq : ab_ny Y i with
    | none => exact hx
    | some q =>
      dsimp only
      cases e : sx_eq q.1 q.2.1 with
      | false => exact hx
      | true =>
        have e := sx_eq_iff.mp e
        obtain ⟨b1, b2, -⟩ := hY.2 i q hq
        have e2 : q.1 = w.2.1 i := by omega
        show Int.ofNat a * q.1 + b = z
        rw [e2]; exact hx.2
theorem ab_nr_i {Y : ab_Y} {x : ab_I} {w : ab_wd} {z : Int} (hY : ab_RY w Y) {z' : Int} (hx : ab_RI w x z') (h : ab_RI w (ab_nr Y x) z) : ab_RI w x z := by
  rw [ab_RI.fn h (ab_nr_s hY hx)]; exact hx
theorem ab_ie_s {x y : ab_I} {w : ab_wd} {z : Int} (h : ab_ie x y = true) (hx : ab_RI w x z) : ab_RI w y z := by
  rcases x with p | ⟨i, a, b⟩ <;> rcases y with q | ⟨j, c, d⟩
  · have := sx_eq_iff.mp h
    show q = z
    rw [← this]; exact hx
  · cases h
  · cases h
  · obtain ⟨h1, h⟩ := sx_nd h
    obtain ⟨h2, h3⟩ := sx_nd h
    rw [← sx_beq h1, ← sx_beq h2, ← sx_eq_iff.mp h3]
    exact hx
theorem ab_ie_i {x y : ab_I} {w : ab_wd} {z : Int} (h : ab_ie x y = true) (hx : ab_RI w y z) : ab_RI w x z := by
  rcases x with p | ⟨i, a, b⟩ <;> rcases y with q | ⟨j, c, d⟩
  · have := sx_eq_iff.mp h
    show p = z
    rw [this]; exact hx
  · cases h
  · cases h
  · obtain ⟨h1, h⟩ := sx_nd h
    obtain ⟨h2, h3⟩ := sx_nd h
    rw [sx_beq h1, sx_beq h2, sx_eq_iff.mp h3]
    exact hx
theorem ab_sm_s {Y : ab_Y} {x y : ab_I} {w : ab_wd} {z z' : Int} (hY : ab_RY w Y) (h : ab_sm Y x y = true) (hx : ab_RI w x z) (hy : ab_RI w y z') : z = z' :=
  ab_RI.fn (ab_ie_s h (ab_nr_s hY hx)) (ab_nr_s hY hy)
theorem ab_lb_s {Y : ab_Y} {w : ab_wd} (hY : ab_RY w Y) : ∀ (n i j : Nat) (d : Int), ab_lb Y n i j = some d → w.2.1 j + d ≤ w.2.1 i
  | 0, _, _, _, h => by cases h
  | n + 1, i, j, d, h => by
    unfold ab_lb at h
    cases e : Nat.beq i j with
    | true =>
      rw [e] at h
      have h : some (Int.ofNat 0) = some d := h
      cases h
      rw [sx_beq e]; show w.2.1 j + 0 ≤ _; omega
    | false =>
      rw [e] at h
      dsimp only [cond_false] at h
      cases hq : ab_ny Y i with
      | none => rw [hq] at h; cases h
      | some q =>
        rw [hq] at h
        dsimp only at h
        have hr := (hY.2 i q hq).2.2
        have key : ∀ (l : List (Nat × Int)) (acc : Option Int), (∀ r ∈ l, r.1 < w.1 ∧ w.2.1 r.1 + r.2 ≤ w.2.1 i) → (∀ d, acc = some d → w.2.1 j + d ≤ w.2.1 i) → ∀ d, l.foldl (fun acc r => match ab_lb Y n r.1 j with
            | none => acc
            | some z => ab_mo acc (z + r.2)) acc = some d → w.2.1 j + d ≤ w.2.1 i := by
          intro l
          induction l with
          | nil => intro acc _ ha d hd; exact ha d hd
          | cons r t ih =>
            intro acc hl ha d hd
            refine ih _ (fun r hr => hl r (List.mem_cons_of_mem _ hr)) (fun d hd => ?_) d hd
            have hr1 := hl r List.mem_cons_self
            dsimp only at hd
            cases hz : ab_lb Y n r.1 j with
            | none => rw [hz] at hd; exact ha d hd
            | some z =>
              rw [hz] at hd
              have i1 := ab_lb_s hY n r.1 j z hz
              cases acc with
              | none =>
                have hd : some (z + r.2) = some d := hd
                cases hd; omega
              | some x =>
                have hd : some (ab_mx x (z + r.2)) = some d := hd
                cases hd
                have i2 := ha x rfl
                rcases ab_mx_or x (z + r.2) with q | q <;> rw [q] <;> omega
        exact key q.2.2 none hr (fun d hd => by cases hd) d h
theorem ab_df_s {Y : ab_Y} {x y : ab_I} {w : ab_wd} {zx zy d : Int} (hY : ab_RY w Y) (h : ab_df Y x y = some d) (hx : ab_RI w x zx) (hy : ab_RI w y zy) : zy + d ≤ zx := by
  rcases x with p | ⟨i, a, b⟩ <;> rcases y with r | ⟨j, c, e⟩
  · have h : some (p - r) = some d := h
    cases h
    have e1 : p = zx := hx
    have e2 : r = zy := hy
    omega
  · unfold ab_df at h
    dsimp only at h
    cases hq : ab_ny Y j with
    | none => rw [hq] at h; cases h
    | some q =>
      rw [hq] at h
      have h : some (p - (Int.ofNat c * q.2.1 + e)) = some d := h
      cases h
      have e1 : p = zx := hx
      have e2 := hy.2
      have m := ab_ml (a := c) (hY.2 j q hq).2.1
      omega
  · unfold ab_df at h
    dsimp only at h
    cases hq : ab_ny Y i with
    | none => rw [hq] at h; cases h
    | some q =>
      rw [hq] at h
      have h : some (Int.ofNat a * q.1 + b - r) = some d := h
      cases h
      have e1 : r = zy := hy
      have e2 := hx.2
      have m := ab_ml (a := a) (hY.2 i q hq).1
      omega
  · unfold ab_df at h
    dsimp only at h
    have ex := hx.2
    have ey := hy.2
    cases hc : (Nat.beq i j && Nat.beq a c) with
    | true =>
      rw [hc] at h
      have h : some (b - e) = some d := h
      cases h
      obtain ⟨h1, h2⟩ := sx_nd hc
      rw [← sx_beq h1, ← sx_beq h2] at ey
      omega
    | false =>
      rw [hc] at h
      dsimp only [cond_false] at h
      cases hp : ab_ny Y i with
      | none => rw [hp] at h; cases h
      | some p =>
        rw [hp] at h
        dsimp only at h
        cases hq : ab_ny Y j with
        | none => rw [hq] at h; cases h
        | some q =>
          rw [hq] at h
          dsimp only at h
          have m1 := ab_ml (a := a) (hY.2 i p hp).1
          have m2 := ab_ml (a := c) (hY.2 j q hq).2.1
          cases h1 : (Nat.beq a 1 && Nat.beq c 1) with
          | false =>
            rw [h1] at h
            have h : some (Int.ofNat a * p.1 + b - (Int.ofNat c * q.2.1 + e)) = some d := h
            cases h; omega
          | true =>
            rw [h1] at h
            dsimp only [cond_true] at h
            cases hl : ab_lb Y 12 i j with
            | none =>
              rw [hl] at h
              have h : some (Int.ofNat a * p.1 + b - (Int.ofNat c * q.2.1 + e)) = some d := h
              cases h; omega
            | some z =>
              rw [hl] at h
              have h : some (ab_mx (z + b - e) (Int.ofNat a * p.1 + b - (Int.ofNat c * q.2.1 + e))) = some d := h
              cases h
              obtain ⟨h2, h3⟩ := sx_nd h1
              have i1 := ab_lb_s hY 12 i j z hl
              have ea : Int.ofNat a * w.2.1 i = w.2.1 i := by rw [sx_beq h2]; exact Int.one_mul _
              have ec : Int.ofNat c * w.2.1 j = w.2.1 j := by rw [sx_beq h3]; exact Int.one_mul _
              rcases ab_mx_or (z + b - e) (Int.ofNat a * p.1 + b - (Int.ofNat c * q.2.1 + e)) with g | g <;> rw [g] <;> omega
theorem ab_ge_s {Y : ab_Y} {x y : ab_I} {w : ab_wd} {zx zy d : Int} (hY : ab_RY w Y) (h : ab_ge Y x y d = true) (hx : ab_RI w x zx) (hy : ab_RI w y zy) : zy + d ≤ zx := by
  unfold ab_ge at h
  cases hd : ab_df Y x y with
  | none => rw [hd] at h; cases h
  | some z =>
    rw [hd] at h
    have h1 := ab_df_s hY hd hx hy
    have h2 := sx_le_iff.mp h
    omega
theorem ab_hb_s {Y0 : ab_Y} {w : ab_wd} {j : Nat} : ∀ (Y : ab_Y) (acc : Int), (∀ i q, ab_ny Y i = some q → ∃ v, v ≤ q.2.1 ∧ ∀ r ∈ q.2.2, w.2.1 r.1 + r.2 ≤ v) → w.2.1 j ≤ acc → w.2.1 j ≤ ab_hb Y0 j Y acc
  | [], _, _, h => h
  | q :: t, acc, hY, h => by
    unfold ab_hb
    refine ab_hb_s t _ (fun i q hq => hY (i + 1) q hq) ?_
    obtain ⟨v, hv, hr⟩ := hY 0 q rfl
    have key : ∀ (l : List (Nat × Int)) (acc : Int), (∀ r ∈ l, w.2.1 r.1 + r.2 ≤ v) → w.2.1 j ≤ acc → w.2.1 j ≤ l.foldl (fun acc r => cond (Nat.beq r.1 j) (ab_mn acc (q.2.1 - r.2)) acc) acc := by
      intro l
      induction l with
      | nil => intro acc _ ha; exact ha
      | cons r t ih =>
        intro acc hl ha
        refine ih _ (fun r hr => hl r (List.mem_cons_of_mem _ hr)) ?_
        have hr1 := hl r List.mem_cons_self
        show w.2.1 j ≤ cond (Nat.beq r.1 j) (ab_mn acc (q.2.1 - r.2)) acc
        cases e : Nat.beq r.1 j with
        | false => exact ha
        | true =>
          rw [sx_beq e] at hr1
          show w.2.1 j ≤ ab_mn acc (q.2.1 - r.2)
          rcases ab_mn_or acc (q.2.1 - r.2) with g | g <;> rw [g] <;> omega
    exact key q.2.2 acc hr h
theorem ab_le_s {Y : ab_Y} {x : ab_I} {w : ab_wd} {z hi : Int} (hY : ab_RY w Y) (h : ab_le Y x hi = true) (hx : ab_RI w x z) : z ≤ hi := by
  rcases x with p | ⟨i, a, b⟩
  · have := sx_le_iff.mp h
    have e : p = z := hx
    omega
  · unfold ab_le at h
    dsimp only at h
    cases hq : ab_ny Y i with
    | none => rw [hq] at h; cases h
    | some q =>
      rw [hq] at h
      dsimp only at h
      have ex := hx.2
      rw [Bool.or_eq_true] at h
      rcases h with h | h
      · have := sx_le_iff.mp h
        have m := ab_ml (a := a) (hY.2 i q hq).2.1
        omega
      · obtain ⟨h1, h2⟩ := sx_nd h
        have h2 := sx_le_iff.mp h2
        have ea : Int.ofNat a * w.2.1 i = w.2.1 i := by rw [sx_beq h1]; exact Int.one_mul _
        have := ab_hb_s (Y0 := Y) (w := w) (j := i) Y q.2.1 (fun i q hq => ⟨w.2.1 i, (hY.2 i q hq).2.1, fun r hr => ((hY.2 i q hq).2.2 r hr).2⟩) (hY.2 i q hq).2.1
        omega
end
section
/-! ===== new signs, arithmetic, comparisons ===== -/
theorem ab_q1.up {w w' : ab_wd} {i : Nat} {q : ab_S} (u : ab_up w w') (hi : i < w.1) (h : ab_q1 w i q) : ab_q1 w' i q := by
  obtain ⟨h1, h2, h3⟩ := h
  unfold ab_q1
  rw [u.2.1 i hi]
  refine ⟨h1, h2, fun r hr => ?_⟩
  obtain ⟨g1, g2⟩ := h3 r hr
  exact ⟨Nat.lt_of_lt_of_le g1 u.1, by rw [u.2.1 _ g1]; exact g2⟩
def ab_ok3 (w : ab_wd) (k : ab_I → ab_Y → Bool) (z : Int) : Prop := ∃ w' v Y', ab_ey w w' ∧ ab_RY w' Y' ∧ ab_RI w' v z ∧ k v Y' = true
theorem ab_fr_s {Y : ab_Y} {lo hi z : Int} {rel : List (Nat × Int)} {k : ab_I → ab_Y → Bool} {w : ab_wd} (h : ab_fr Y lo hi rel k = true) (hY : ab_RY w Y) (h1 : lo ≤ z) (h2 : z ≤ hi) (hr : ∀ r ∈ rel, r.1 < w.1 ∧ w.2.1 r.1 + r.2 ≤ z) : ab_ok3 w k z := by
  unfold ab_fr at h
  rw [sx_fi_eq, sx_fi_eq] at h
  cases he : sx_eq lo hi with
  | true =>
    rw [he] at h
    have := sx_eq_iff.mp he
    exact ⟨w, .inl lo, Y, ab_ey.rf, hY, (by show lo = z; omega), h⟩
  | false =>
    rw [he] at h
    have u : ab_up w (w.1 + 1, fun i => if i = w.1 then z else w.2.1 i, w.2.2) := ⟨Nat.le_succ _, fun i hi => if_neg (Nat.ne_of_lt hi), Nat.le_refl _, fun _ _ => rfl⟩
    have hz : (if w.1 = w.1 then z else w.2.1 w.1) = z := if_pos rfl
    refine ⟨(w.1 + 1, fun i => if i = w.1 then z else w.2.1 i, w.2.2), .inr (Y.length, 1, .ofNat 0), Y ++ [(lo, hi, rel)], ⟨u, rfl⟩, ⟨?_, fun i r hni => ?_⟩, ⟨?_, ?_⟩, h⟩
    · rw [List.length_append, ← hY.1]; rfl
    · rcases ab_ny_app Y _ i r hni with ⟨e1, e2⟩ | e1
      · rw [← hY.1] at e1
        subst e1
        subst e2
        refine ⟨?_, ?_, fun r hr1 => ?_⟩
        · show lo ≤ (if w.1 = w.1 then z else w.2.1 w.1); rw [hz]; exact h1
        · show (if w.1 = w.1 then z else w.2.1 w.1) ≤ hi; rw [hz]; exact h2
        · obtain ⟨g1, g2⟩ := hr r hr1
          refine ⟨Nat.lt_succ_of_lt g1, ?_⟩
          show (if r.1 = w.1 then z else w.2.1 r.1) + r.2 ≤ (if w.1 = w.1 then z else w.2.1 w.1)
          rw [hz, if_neg (Nat.ne_of_lt g1)]; exact g2
      · exact (hY.2 i r e1).up u (by rw [hY.1]; exact ab_ny_lt e1)
    · show Y.length < w.1 + 1
      rw [hY.1]; exact Nat.lt_succ_self _
    · show Int.ofNat 1 * (if Y.length = w.1 then z else w.2.1 Y.length) + Int.ofNat 0 = z
      rw [if_pos hY.1.symm]
      show (1 : Int) * z + 0 = z
      omega
theorem ab_ff_s {Y : ab_Y} {z : Int} {k : ab_I → ab_Y → Bool} {w : ab_wd} (h : ab_ff Y k = true) (hY : ab_RY w Y) (hz : mj_in z) : ab_ok3 w k z :=
  ab_fr_s h hY (show (-2147483648 : Int) ≤ z from hz.1) (show z ≤ (2147483647 : Int) from by have := hz.2; omega) (fun r hr => by cases hr)
theorem ab_c1_s {i a : Nat} {b : Int} {k : ab_I → Bool} (h : ab_c1 i a b k = true) : k (.inr (i, a, b)) = true := by
  unfold ab_c1 at h
  rw [sx_fi_eq, sx_fn_eq] at h
  exact h
theorem ab_rel1_s {w : ab_wd} {x : ab_I} {d zx z : Int} (hx : ab_RI w x zx) (h : zx + d ≤ z) : ∀ r ∈ ab_rel1 x d, r.1 < w.1 ∧ w.2.1 r.1 + r.2 ≤ z := by
  intro r hr
  unfold ab_rel1 at hr
  split at hr
  · rename_i i b
    have e : r = (i, b + d) := by simpa using hr
    subst e
    have h2 : Int.ofNat 1 * w.2.1 i + b = zx := hx.2
    have h3 : Int.ofNat 1 * w.2.1 i = w.2.1 i := Int.one_mul _
    exact ⟨hx.1, by show w.2.1 i + (b + d) ≤ z; omega⟩
  · cases hr
def ab_ok2 (w : ab_wd) (k : ab_I → ab_Y → Bool) (z : Int) : Prop := (mj_in z ∧ ab_ok3 w k z) ∨ ∀ z, mj_in z → ab_ok3 w k z
theorem ab_here {w : ab_wd} {Y : ab_Y} {k : ab_I → ab_Y → Bool} {v : ab_I} {z : Int} (hY : ab_RY w Y) (hv : ab_RI w v z) (h : k v Y = true) : ab_ok3 w k z := ⟨w, v, Y, ab_ey.rf, hY, hv, h⟩
theorem ab_hc {w : ab_wd} {Y : ab_Y} {k : ab_I → ab_Y → Bool} {v z : Int} (hY : ab_RY w Y) (e : v = z) (h : k (.inl v) Y = true) : ab_ok3 w k z := ⟨w, .inl v, Y, ab_ey.rf, hY, e, h⟩
theorem ab_hs {w : ab_wd} {Y : ab_Y} {k : ab_I → ab_Y → Bool} {i a : Nat} {b z : Int} (hY : ab_RY w Y) (hi : i < w.1) (e : Int.ofNat a * w.2.1 i + b = z) (h : k (.inr (i, a, b)) Y = true) : ab_ok3 w k z := ⟨w, .inr (i, a, b), Y, ab_ey.rf, hY, ⟨hi, e⟩, h⟩
theorem ab_add_s {Y : ab_Y} {x y : ab_I} {k : ab_I → ab_Y → Bool} {w : ab_wd} {zx zy : Int} (h : ab_add Y x y k = true) (hY : ab_RY w Y) (hx : ab_RI w x zx) (hy : ab_RI w y zy) : ab_ok2 w k (zx + zy) := by
  unfold ab_add at h
  obtain ⟨a, b, h, ha, hb⟩ := ab_iv_s h hY hx
  obtain ⟨c, d, h, hc, hd⟩ := ab_iv_s h hY hy
  cases hin : sx_in (a + c) (b + d) with
  | false =>
    rw [hin] at h
    exact Or.inr (fun z hz => ab_ff_s h hY hz)
  | true =>
    rw [hin] at h
    dsimp only [cond_true] at h
    refine Or.inl ⟨sx_in_of hin (by omega) (by omega), ?_⟩
    rcases x with p | ⟨i, f, p⟩ <;> rcases y with q | ⟨j, g, q⟩
    · dsimp only at h
      rw [sx_fi_eq] at h
      have e1 : p = zx := hx
      have e2 : q = zy := hy
      exact ab_hc hY (show p + q = zx + zy by omega) h
    · have e1 : p = zx := hx
      exact ab_hs hY hy.1 (by have := hy.2; omega) (ab_c1_s h)
    · have e1 : q = zy := hy
      exact ab_hs hY hx.1 (by have := hx.2; omega) (ab_c1_s h)
    · dsimp only at h
      cases hij : Nat.beq i j with
      | true =>
        rw [hij] at h
        dsimp only [cond_true] at h
        have e := sx_beq hij
        refine ab_hs hY hx.1 ?_ (ab_c1_s h)
        have h1 := hx.2
        have h2 := hy.2
        rw [← e] at h2
        have h3 : Int.ofNat (f + g) * w.2.1 i = Int.ofNat f * w.2.1 i + Int.ofNat g * w.2.1 i := by
          rw [← Int.add_mul]; rfl
        omega
      | false =>
        rw [hij] at h
        dsimp only [cond_false] at h
        refine ab_fr_s h hY (by omega) (by omega) ?_
        cases hf : Nat.beq f 1 with
        | true => exact ab_rel1_s hx (by omega)
        | false => exact ab_rel1_s hy (by omega)
theorem ab_sub_s {Y : ab_Y} {x y : ab_I} {k : ab_I → ab_Y → Bool} {w : ab_wd} {zx zy : Int} (h : ab_sub Y x y k = true) (hY : ab_RY w Y) (hx : ab_RI w x zx) (hy : ab_RI w y zy) : ab_ok2 w k (zx - zy) := by
  unfold ab_sub at h
  obtain ⟨a, b, h, ha, hb⟩ := ab_iv_s h hY hx
  obtain ⟨c, d, h, hc, hd⟩ := ab_iv_s h hY hy
  cases hin : sx_in (a - d) (b - c) with
  | false =>
    rw [hin] at h
    exact Or.inr (fun z hz => ab_ff_s h hY hz)
  | true =>
    rw [hin] at h
    dsimp only [cond_true] at h
    refine Or.inl ⟨sx_in_of hin (by omega) (by omega), ?_⟩
    rcases x with p | ⟨i, f, p⟩ <;> rcases y with q | ⟨j, g, q⟩
    · dsimp only at h
      rw [sx_fi_eq] at h
      have e1 : p = zx := hx
      have e2 : q = zy := hy
      exact ab_hc hY (show p - q = zx - zy by omega) h
    · exact ab_fr_s h hY (by omega) (by omega) (fun r hr => by cases hr)
    · have e1 : q = zy := hy
      exact ab_hs hY hx.1 (by have := hx.2; omega) (ab_c1_s h)
    · dsimp only at h
      cases hij : (Nat.beq i j && Nat.ble g f) with
      | true =>
        rw [hij] at h
        dsimp only [cond_true] at h
        obtain ⟨e, hgf⟩ := sx_nd hij
        have e := sx_beq e
        have hgf := sx_ble hgf
        have h1 := hx.2
        have h2 := hy.2
        rw [← e] at h2
        cases hfg : Nat.beq f g with
        | true =>
          rw [hfg] at h
          dsimp only [cond_true] at h
          rw [sx_fi_eq] at h
          have e2 := sx_beq hfg
          rw [← e2] at h2
          exact ab_hc hY (show p - q = zx - zy by omega) h
        | false =>
          rw [hfg] at h
          dsimp only [cond_false] at h
          refine ab_hs hY hx.1 ?_ (ab_c1_s h)
          have h3 : Int.ofNat (f - g) * w.2.1 i = Int.ofNat f * w.2.1 i - Int.ofNat g * w.2.1 i := by
            rw [← Int.sub_mul]
            congr 1
            simp only [Int.ofNat_eq_natCast]; omega
          omega
      | false =>
        rw [hij] at h
        dsimp only [cond_false] at h
        exact ab_fr_s h hY (by omega) (by omega) (ab_rel1_s hx (by omega))
theorem ab_mb1 {a b x y : Int} (h1 : a ≤ x) (h2 : x ≤ b) : (a * y ≤ x * y ∨ b * y ≤ x * y) ∧ (x * y ≤ a * y ∨ x * y ≤ b * y) := by
  rcases Int.le_total 0 y with hy | hy
  · exact ⟨Or.inl (Int.mul_le_mul_of_nonneg_right h1 hy), Or.inr (Int.mul_le_mul_of_nonneg_right h2 hy)⟩
  · exact ⟨Or.inr (Int.mul_le_mul_of_nonpos_right h2 hy), Or.inl (Int.mul_le_mul_of_nonpos_right h1 hy)⟩
theorem ab_mul_s {Y : ab_Y} {x y : ab_I} {k : ab_I → ab_Y → Bool} {w : ab_wd} {zx zy : Int} (h : ab_mul Y x y k = true) (hY : ab_RY w Y) (hx : ab_RI w x zx) (hy : ab_RI w y zy) : ab_ok2 w k (zx * zy) := by
  unfold ab_mul at h
  obtain ⟨a, b, h, ha, hb⟩ := ab_iv_s h hY hx
  obtain ⟨c, d, h, hc, hd⟩ := ab_iv_s h hY hy
  rw [sx_fi_eq, sx_fi_eq] at h
  have hlo : ab_mn (ab_mn (a * c) (a * d)) (ab_mn (b * c) (b * d)) ≤ zx * zy ∧ zx * zy ≤ ab_mx (ab_mx (a * c) (a * d)) (ab_mx (b * c) (b * d)) := by
    obtain ⟨m1, m2⟩ := ab_mb1 (y := zy) ha hb
    obtain ⟨n1, n2⟩ := ab_mb1 (y := a) hc hd
    obtain ⟨o1, o2⟩ := ab_mb1 (y := b) hc hd
    rw [Int.mul_comm c a, Int.mul_comm d a, Int.mul_comm zy a] at n1 n2
    rw [Int.mul_comm c b, Int.mul_comm d b, Int.mul_comm zy b] at o1 o2
    have p1 := ab_mn_s (a * c) (a * d)
    have p2 := ab_mn_s (b * c) (b * d)
    have p3 := ab_mn_s (ab_mn (a * c) (a * d)) (ab_mn (b * c) (b * d))
    have q1 := ab_mx_s (a * c) (a * d)
    have q2 := ab_mx_s (b * c) (b * d)
    have q3 := ab_mx_s (ab_mx (a * c) (a * d)) (ab_mx (b * c) (b * d))
    omega
  generalize ab_mn (ab_mn (a * c) (a * d)) (ab_mn (b * c) (b * d)) = lo at h hlo
  generalize ab_mx (ab_mx (a * c) (a * d)) (ab_mx (b * c) (b * d)) = hi at h hlo
  cases hin : sx_in lo hi with
  | false =>
    rw [hin] at h
    exact Or.inr (fun z hz => ab_ff_s h hY hz)
  | true =>
    rw [hin] at h
    dsimp only [cond_true] at h
    refine Or.inl ⟨sx_in_of hin hlo.1 hlo.2, ?_⟩
    have fr : ab_fr Y lo hi [] k = true → ab_ok3 w k (zx * zy) := fun h => ab_fr_s h hY hlo.1 hlo.2 (fun r hr => by cases hr)
    rcases x with p | ⟨i, f, p⟩ <;> rcases y with q | ⟨j, g, q⟩
    · dsimp only at h
      rw [sx_fi_eq] at h
      have e1 : p = zx := hx
      have e2 : q = zy := hy
      exact ab_hc hY (show p * q = zx * zy by rw [e1, e2]) h
    · cases p with
      | negSucc p => exact fr h
      | ofNat p =>
        dsimp only at h
        have e1 : Int.ofNat p = zx := hx
        cases hp : Nat.ble 1 p with
        | false => rw [hp] at h; exact fr h
        | true =>
          rw [hp] at h
          dsimp only [cond_true] at h
          refine ab_hs hY hy.1 ?_ (ab_c1_s h)
          have h2 := hy.2
          have h3 : Int.ofNat (g * p) * w.2.1 j = Int.ofNat p * (Int.ofNat g * w.2.1 j) := by
            rw [← Int.mul_assoc, Int.mul_comm (Int.ofNat p)]; rfl
          rw [h3, ← Int.mul_add, h2, e1]
    · cases q with
      | negSucc q => exact fr h
      | ofNat q =>
        dsimp only at h
        have e1 : Int.ofNat q = zy := hy
        cases hq : Nat.ble 1 q with
        | false => rw [hq] at h; exact fr h
        | true =>
          rw [hq] at h
          dsimp only [cond_true] at h
          refine ab_hs hY hx.1 ?_ (ab_c1_s h)
          have h2 := hx.2
          have h3 : Int.ofNat (f * q) * w.2.1 i = Int.ofNat q * (Int.ofNat f * w.2.1 i) := by
            rw [← Int.mul_assoc, Int.mul_comm (Int.ofNat q)]; rfl
          rw [h3, ← Int.mul_add, h2, e1, Int.mul_comm]
    · exact fr h
/-! comparisons -/
theorem ab_may_s {c : ClassFile.Cond} {Y : ab_Y} {x y : ab_I} {w : ab_wd} {zx zy : Int} (hY : ab_RY w Y) (hx : ab_RI w x zx) (hy : ab_RI w y zy) (h : mj_cc c zx zy) : ab_may c Y x y = true := by
  cases c <;> simp only [mj_cc] at h <;> simp only [ab_may] <;> rw [Bool.not_eq_true', Bool.eq_false_iff] <;> intro q
  · rw [Bool.or_eq_true] at q
    rcases q with q | q
    · have : zy + 1 ≤ zx := ab_ge_s hY q hx hy
      omega
    · have : zx + 1 ≤ zy := ab_ge_s hY q hy hx
      omega
  · exact h (ab_sm_s hY q hx hy)
  · have : zy + 0 ≤ zx := ab_ge_s hY q hx hy
    omega
  · have : zx + 1 ≤ zy := ab_ge_s hY q hy hx
    omega
  · have : zx + 0 ≤ zy := ab_ge_s hY q hy hx
    omega
  · have : zy + 1 ≤ zx := ab_ge_s hY q hx hy
    omega
theorem ab_rfn_s {cd : ClassFile.Cond} {lo hi b c d v q : Int} {k : Int → Int → Bool} (h : ab_rfn cd lo hi b c d k = true) (hc : mj_cc cd (v + b) q) (h1 : lo ≤ v) (h2 : v ≤ hi) (h3 : c ≤ q) (h4 : q ≤ d) : ∃ l h', l ≤ v ∧ v ≤ h' ∧ k l h' = true := by
  cases cd <;> simp only [mj_cc] at hc <;> simp only [ab_rfn] at h
  · rw [sx_fi_eq, sx_fi_eq] at h
    refine ⟨_, _, ?_, ?_, h⟩
    · rcases ab_mx_or lo (c - b) with e | e <;> rw [e] <;> omega
    · rcases ab_mn_or hi (d - b) with e | e <;> rw [e] <;> omega
  · cases e : sx_eq c d with
    | false => rw [e] at h; exact ⟨_, _, h1, h2, h⟩
    | true =>
      rw [e] at h
      dsimp only [cond_true] at h
      rw [sx_fi_eq, sx_fi_eq] at h
      have e := sx_eq_iff.mp e
      refine ⟨_, _, ?_, ?_, h⟩
      · cases e2 : sx_eq lo (c - b) with
        | true => have := sx_eq_iff.mp e2; simp only [cond_true]; omega
        | false => simp only [cond_false]; omega
      · cases e2 : sx_eq hi (c - b) with
        | true => have := sx_eq_iff.mp e2; simp only [cond_true]; omega
        | false => simp only [cond_false]; omega
  · rw [sx_fi_eq] at h
    refine ⟨_, _, h1, ?_, h⟩
    rcases ab_mn_or hi (d - 1 - b) with e | e <;> rw [e] <;> omega
  · rw [sx_fi_eq] at h
    refine ⟨_, _, ?_, h2, h⟩
    rcases ab_mx_or lo (c - b) with e | e <;> rw [e] <;> omega
  · rw [sx_fi_eq] at h
    refine ⟨_, _, ?_, h2, h⟩
    rcases ab_mx_or lo (c + 1 - b) with e | e <;> rw [e] <;> omega
  · rw [sx_fi_eq] at h
    refine ⟨_, _, h1, ?_, h⟩
    rcases ab_mn_or hi (d - b) with e | e <;> rw [e] <;> omega
theorem ab_rf1_s {cd : ClassFile.Cond} {Y : ab_Y} {x : ab_I} {c d z q : Int} {k : ab_Y → Bool} {w : ab_wd} (h : ab_rf1 cd Y x c d k = true) (hY : ab_RY w Y) (hx : ab_RI w x z) (hc : mj_cc cd z q) (h3 : c ≤ q) (h4 : q ≤ d) : ∃ Y', ab_RY w Y' ∧ k Y' = true := by
  rcases x with p | ⟨i, a, b⟩
  · exact ⟨Y, hY, h⟩
  · unfold ab_rf1 at h
    dsimp only at h
    cases ha : Nat.beq a 1 with
    | false => rw [ha] at h; exact ⟨Y, hY, h⟩
    | true =>
      rw [ha] at h
      dsimp only [cond_true] at h
      cases hq : ab_ny Y i with
      | none => rw [hq] at h; exact ⟨Y, hY, h⟩
      | some r =>
        rw [hq] at h
        dsimp only at h
        obtain ⟨b1, b2, b3⟩ := hY.2 i r hq
        have e : w.2.1 i + b = z := by
          have := hx.2
          rw [sx_beq ha] at this
          have h1 : Int.ofNat 1 * w.2.1 i = w.2.1 i := Int.one_mul _
          omega
        rw [← e] at hc
        obtain ⟨l, h', u1, u2, u3⟩ := ab_rfn_s h hc b1 b2 h3 h4
        have hle := sx_le_iff.mpr (Int.le_trans u1 u2)
        rw [hle] at u3
        exact ⟨Y.set i (l, h', r.2.2), hY.set (q := (l, h', r.2.2)) ⟨u1, u2, b3⟩, u3⟩
theorem ab_sr_s {Y : ab_Y} {i j : Nat} {d : Int} {k : ab_Y → Bool} {w : ab_wd} (h : ab_sr Y i j d k = true) (hY : ab_RY w Y) (hi : i < w.1) (hd : w.2.1 i + d ≤ w.2.1 j) : ∃ Y', ab_RY w Y' ∧ k Y' = true := by
  have two : ab_sr.ab_sr2 Y i j d k = true → ∃ Y', ab_RY w Y' ∧ k Y' = true := fun h => by
    unfold ab_sr.ab_sr2 at h
    cases hq : ab_ny Y j with
    | none => rw [hq] at h; exact ⟨Y, hY, h⟩
    | some q =>
      rw [hq] at h
      dsimp only at h
      rw [sx_fi_eq] at h
      obtain ⟨b1, b2, b3⟩ := hY.2 j q hq
      refine ⟨_, hY.set (q := (q.1, q.2.1, (i, d) :: q.2.2.filter (fun r => !Nat.beq r.1 i))) ⟨b1, b2, fun r hr => ?_⟩, h⟩
      rcases List.mem_cons.mp hr with rfl | hr
      · exact ⟨hi, hd⟩
      · exact b3 r (List.mem_filter.mp hr).1
  unfold ab_sr at h
  cases e : Nat.beq i j with
  | true => rw [e] at h; exact ⟨Y, hY, h⟩
  | false =>
    rw [e] at h
    dsimp only [cond_false] at h
    cases hl : ab_lb Y 12 j i with
    | none => rw [hl] at h; exact two h
    | some z =>
      rw [hl] at h
      dsimp only at h
      cases hz : sx_le d z with
      | true => rw [hz] at h; exact ⟨Y, hY, h⟩
      | false => rw [hz] at h; exact two h
theorem ab_st2_s {cd : ClassFile.Cond} {Y : ab_Y} {x y : ab_I} {zx zy : Int} {k : ab_Y → Bool} {w : ab_wd} (h : ab_st2 cd Y x y k = true) (hY : ab_RY w Y) (hx : ab_RI w x zx) (hy : ab_RI w y zy) (hc : mj_cc cd zx zy) : ∃ Y', ab_RY w Y' ∧ k Y' = true := by
  unfold ab_st2 at h
  split at h
  · rename_i i b j d
    have ex : w.2.1 i + b = zx := by
      have := hx.2
      have h1 : Int.ofNat 1 * w.2.1 i = w.2.1 i := Int.one_mul _
      omega
    have ey : w.2.1 j + d = zy := by
      have := hy.2
      have h1 : Int.ofNat 1 * w.2.1 j = w.2.1 j := Int.one_mul _
      omega
    cases cd <;> simp only [mj_cc] at hc <;> dsimp only at h
    · exact ⟨Y, hY, h⟩
    · exact ⟨Y, hY, h⟩
    · exact ab_sr_s h hY hx.1 (by omega)
    · exact ab_sr_s h hY hy.1 (by omega)
    · exact ab_sr_s h hY hy.1 (by omega)
    · exact ab_sr_s h hY hx.1 (by omega)
  · exact ⟨Y, hY, h⟩
theorem ab_br1_s {cd : ClassFile.Cond} {Y : ab_Y} {x y : ab_I} {a b c d zx zy : Int} {k : ab_Y → Bool} {w : ab_wd} (h : ab_br1 cd Y x y a b c d k = true) (hY : ab_RY w Y) (hx : ab_RI w x zx) (hy : ab_RI w y zy) (hc : mj_cc cd zx zy) (h1 : a ≤ zx) (h2 : zx ≤ b) (h3 : c ≤ zy) (h4 : zy ≤ d) : ∃ Y', ab_RY w Y' ∧ k Y' = true := by
  have h := sx_ct h (ab_may_s hY hx hy hc)
  obtain ⟨Y1, hY1, h⟩ := ab_rf1_s h hY hx hc h3 h4
  obtain ⟨Y2, hY2, h⟩ := ab_rf1_s h hY1 hy (sx_swp_s hc) h1 h2
  exact ab_st2_s h hY2 hx hy hc
theorem ab_br_s {cd : ClassFile.Cond} {Y : ab_Y} {x y : ab_I} {zx zy : Int} {k k' : ab_Y → Bool} {w : ab_wd} {A B : Prop} (h : ab_br cd Y x y k k' = true) (hY : ab_RY w Y) (hx : ab_RI w x zx) (hy : ab_RI w y zy) (kk : ∀ Y', ab_RY w Y' → k Y' = true → A) (kk' : ∀ Y', ab_RY w Y' → k' Y' = true → B) : mj_br (mj_cc cd zx zy) A B := by
  obtain ⟨a, b, h, h1, h2⟩ := ab_iv_s h hY hx
  obtain ⟨c, d, h, h3, h4⟩ := ab_iv_s h hY hy
  obtain ⟨ha, hb⟩ := sx_nd h
  refine ⟨fun q => ?_, fun q => ?_⟩
  · obtain ⟨Y', u1, u2⟩ := ab_br1_s ha hY hx hy q h1 h2 h3 h4
    exact kk Y' u1 u2
  · obtain ⟨Y', u1, u2⟩ := ab_br1_s hb hY hx hy (sx_neg_s q) h1 h2 h3 h4
    exact kk' Y' u1 u2
theorem ab_all_s {k : Int → Bool} {z : Int} : ∀ (n : Nat) (lo : Int), ab_all n lo k = true → lo ≤ z → z < lo + n → k z = true
  | 0, lo, _, h1, h2 => by omega
  | n + 1, lo, h, h1, h2 => by
    unfold ab_all at h
    rw [Bool.and_eq_true, sx_fi_eq] at h
    by_cases e : z = lo
    · rw [e]; exact h.1
    · exact ab_all_s n (lo + 1) h.2 (by omega) (by omega)
theorem ab_spl_s {Y : ab_Y} {x : ab_I} {k : Int → ab_Y → Bool} {w : ab_wd} {z : Int} (h : ab_spl Y x k = true) (hY : ab_RY w Y) (hx : ab_RI w x z) : ∃ Y', ab_RY w Y' ∧ k z Y' = true := by
  rcases x with p | ⟨i, a, b⟩
  · exact ⟨Y, hY, by rw [← (show p = z from hx)]; exact h⟩
  · unfold ab_spl at h
    dsimp only at h
    cases hq : ab_ny Y i with
    | none => rw [hq] at h; cases h
    | some q =>
      rw [hq] at h
      dsimp only at h
      obtain ⟨-, h⟩ := sx_cd h
      obtain ⟨b1, b2, b3⟩ := hY.2 i q hq
      have h := ab_all_s (z := w.2.1 i) _ _ h b1 (by omega)
      rw [sx_fi_eq, hx.2] at h
      exact ⟨_, hY.set (q := (w.2.1 i, w.2.1 i, q.2.2)) ⟨Int.le_refl _, Int.le_refl _, b3⟩, h⟩
end
